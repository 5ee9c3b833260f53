/-! the class: beginAct, on -/
/-- tags of a new act's objects -/
def tgA (tg : Nat → Nat) (A : Nat) (r : Nat → Nat) (v na : Nat) : Nat → Nat := fun a => if a = A then Tg v 6 na else if a = r 0 then Tg v 7 na else if a = r 1 then Tg v 8 na else if a = r 2 then Tg v 9 na else if a = r 3 then Tg v 10 na else if a = r 4 then Tg v 11 na else if a = r 5 then Tg v 12 na else if a = r 6 then Tg v 13 na else tg a
def adA (ad : Nat → Nat → Nat) (A : Nat) (r : Nat → Nat) (na : Nat) : Nat → Nat → Nat := fun k i => if i = na ∧ 6 ≤ k ∧ k ≤ 13 then (if k = 6 then A else r (k - 7)) else ad k i
section
variable {g d : Nat} {h h' : jd_H} {Q : jd_Q} {tg aj : Nat → Nat} {ad : Nat → Nat → Nat} {v q n lo na p A : Nat} {r : Nat → Nat} {po w0 pp : Int32} {l : List Ev} {s : VS}
theorem tgA_r (hi : ∀ i j, i < 7 → j < 7 → r i = r j → i = j) (hA : ∀ j, j < 7 → r j ≠ A) {k : Nat} (hk : k < 7) : tgA tg A r v na (r k) = Tg v (7 + k) na := by
  unfold tgA
  rw [if_neg (hA k hk)]
  have ne : ∀ j, j < 7 → k ≠ j → ¬ r k = r j := fun j hj hkj z => hkj (hi k j hk hj z)
  have hk' : k = 0 ∨ k = 1 ∨ k = 2 ∨ k = 3 ∨ k = 4 ∨ k = 5 ∨ k = 6 := by omega
  rcases hk' with rfl | rfl | rfl | rfl | rfl | rfl | rfl
  · rw [if_pos rfl]
  · rw [if_neg (ne 0 (by decide) (by decide)), if_pos rfl]
  · rw [if_neg (ne 0 (by decide) (by decide)), if_neg (ne 1 (by decide) (by decide)), if_pos rfl]
  · rw [if_neg (ne 0 (by decide) (by decide)), if_neg (ne 1 (by decide) (by decide)), if_neg (ne 2 (by decide) (by decide)), if_pos rfl]
  · rw [if_neg (ne 0 (by decide) (by decide)), if_neg (ne 1 (by decide) (by decide)), if_neg (ne 2 (by decide) (by decide)), if_neg (ne 3 (by decide) (by decide)), if_pos rfl]
  · rw [if_neg (ne 0 (by decide) (by decide)), if_neg (ne 1 (by decide) (by decide)), if_neg (ne 2 (by decide) (by decide)), if_neg (ne 3 (by decide) (by decide)), if_neg (ne 4 (by decide) (by decide)), if_pos rfl]
  · rw [if_neg (ne 0 (by decide) (by decide)), if_neg (ne 1 (by decide) (by decide)), if_neg (ne 2 (by decide) (by decide)), if_neg (ne 3 (by decide) (by decide)), if_neg (ne 4 (by decide) (by decide)), if_neg (ne 5 (by decide) (by decide)), if_pos rfl]
theorem tgA_o {a : Nat} (h1 : a ≠ A) (h2 : ∀ j, j < 7 → a ≠ r j) : tgA tg A r v na a = tg a := by
  unfold tgA
  rw [if_neg h1, if_neg (h2 0 (by decide)), if_neg (h2 1 (by decide)), if_neg (h2 2 (by decide)), if_neg (h2 3 (by decide)), if_neg (h2 4 (by decide)), if_neg (h2 5 (by decide)), if_neg (h2 6 (by decide))]
set_option maxRecDepth 100000 in
/-- who is at risk -/
theorem l_risk {fv : Nat → Int32} {R : Nat} (hI : IV pp s n lo na p) (hJ : JV q s n na p) (c0 : cV0 h tg ad aj v po q fv) (hf0 : fv 0 = s.1 0) (hf3 : fv 3 = vWr q s) (cI : cVI h tg ad v n s.2.1) (kA : zK h A = 2) (rA : zR h 128 A = some R) (kR : zK h R = 12) (lR : zL h R = 81)
    (hex : ∀ h2 x y, DT R R h h2 → (∀ i, i < n → zA h2 R i = rAc s n 0 i) → (∀ i, n ≤ i → zA h2 R i = zA h R i) → jd_w g (d + 3) 28 Q 103 [some (.ref (ad 0 0)), some (.ref A), x, y] [] h2 1 800) :
    ∀ (k i0 : Nat) (h2 : jd_H) (y : Option Value), i0 + k = n → DT R R h h2 → (∀ i, i < i0 → zA h2 R i = rAc s n 0 i) → (∀ i, i0 ≤ i → zA h2 R i = zA h R i) → jd_w g (d + 3) 28 Q 38 [some (.ref (ad 0 0)), some (.ref A), some (.int (nI i0)), y] [] h2 1 800 := by
  have hn81 := IV_81 hI
  have cI2 : ∀ h2, DT R R h h2 → cVI h2 tg ad v n s.2.1 := fun h2 hT => by
    refine ⟨?_, fun i hi => ?_⟩
    · obtain ⟨e, ⟨k1, k2, k3, k4, k5⟩, k6, k7, k8⟩ := cI.1
      exact ⟨e, ⟨by rw [hT.1]; exact k1, by rw [hT.2.1]; exact k2, by rw [hT.2.2.1]; exact k3, by rw [hT.1, hT.2.2.2.1]; exact k4, by rw [hT.2.2.2.1]; exact k5⟩, by rw [hT.1]; exact k6, k7, by rw [hT.2.2.2.2.1]; exact k8⟩
    · have := cI.2 i hi
      unfold cIn at this ⊢
      rw [hT.1, hT.2.1]
      exact this
  intro k
  induction k with
  | zero =>
    intro i0 h2 y hi hT hA hB
    have hin : i0 = n := by omega
    subst hin
    have c2 := cI2 h2 hT
    have kV : zK h2 (ad 0 0) = 7 := by rw [hT.1]; exact c0.1.1
    have r448 : zR h2 448 (ad 0 0) = some (ad 1 0) := by rw [hT.2.2.1]; exact c0.2.1.1
    rw [e28_38]
    simp only [e28_39, e28_40, e28_43, o_iload, o_lload, o_aload, o_istore, o_lstore, o_astore, o_iinc, o_ipush, o_lpush, o_null, o_ibin, o_ineg, o_lbin, o_ldv, o_lneg, o_lcmp, o_i2l, o_l2i, o_dup, o_pop, o_dupx, o_dup2, o_ic, o_iz, o_nul, o_acmp, o_tsw, o_gI, o_gR, o_pI, o_pZ, o_pR, o_iald, o_bald, o_lald, o_aald, o_iast, o_bast, o_last, o_aast, o_alen, o_newa, o_new, o_mna, o_cast, o_calls, o_callv, o_calli, o_oinit, o_getC, o_refp, o_cpi, o_cpo, o_mmax, o_mmin, o_lmin, o_iret, o_zret, o_lret, o_aret, o_vret, jd_lo, jd_la, jd_nl, jd_pop, List.length_cons, List.length_nil, List.set_cons_zero, List.set_cons_succ, List.getElem?_cons_zero, List.getElem?_cons_succ, List.replicate_succ, List.replicate_zero, List.cons_append, List.nil_append, List.append_nil, Value.category, Option.toList, va_rf, true_implies, false_implies, false_and, and_false, and_true, true_and, and_self, true_or, or_true, false_or, or_false, not_true_eq_false, not_false_eq_true, forall_const, implies_true, if_true, if_false, reduceCtorEq, reduceIte, Nat.reduceAdd, Nat.reduceMul, Nat.reduceSub, Nat.reduceDiv, Nat.reduceMod, Nat.reduceEqDiff, Nat.reduceLeDiff, Nat.reduceLT, Nat.zero_le, Nat.lt_add_one, Nat.le_refl, Nat.sub_zero, Nat.zero_lt_succ, ge_iff_le, ji_m2, ji_m1, ji_0, ji_1, ji_2, ji_3, ji_4, ji_5, ji_6, ji_7, ji_8, ji_10, ji_12, ji_29, ji_30, ji_31, ji_40, ji_60, ji_70, ji_80, ji_81, ji_360, ji_512, ji_972, ji_1000000, ji_2147483639, jl_m1, jl_0, jl_1, kV, r448, vLS_K c2.1]
    refine k_lsize (d := d + 2) c2.1 ?_
    simp only [e28_48, o_iload, o_lload, o_aload, o_istore, o_lstore, o_astore, o_iinc, o_ipush, o_lpush, o_null, o_ibin, o_ineg, o_lbin, o_ldv, o_lneg, o_lcmp, o_i2l, o_l2i, o_dup, o_pop, o_dupx, o_dup2, o_ic, o_iz, o_nul, o_acmp, o_tsw, o_gI, o_gR, o_pI, o_pZ, o_pR, o_iald, o_bald, o_lald, o_aald, o_iast, o_bast, o_last, o_aast, o_alen, o_newa, o_new, o_mna, o_cast, o_calls, o_callv, o_calli, o_oinit, o_getC, o_refp, o_cpi, o_cpo, o_mmax, o_mmin, o_lmin, o_iret, o_zret, o_lret, o_aret, o_vret, jd_lo, jd_la, jd_nl, jd_pop, List.length_cons, List.length_nil, List.set_cons_zero, List.set_cons_succ, List.getElem?_cons_zero, List.getElem?_cons_succ, List.replicate_succ, List.replicate_zero, List.cons_append, List.nil_append, List.append_nil, Value.category, Option.toList, va_rf, true_implies, false_implies, false_and, and_false, and_true, true_and, and_self, true_or, or_true, false_or, or_false, not_true_eq_false, not_false_eq_true, forall_const, implies_true, if_true, if_false, reduceCtorEq, reduceIte, Nat.reduceAdd, Nat.reduceMul, Nat.reduceSub, Nat.reduceDiv, Nat.reduceMod, Nat.reduceEqDiff, Nat.reduceLeDiff, Nat.reduceLT, Nat.zero_le, Nat.lt_add_one, Nat.le_refl, Nat.sub_zero, Nat.zero_lt_succ, ge_iff_le, ji_m2, ji_m1, ji_0, ji_1, ji_2, ji_3, ji_4, ji_5, ji_6, ji_7, ji_8, ji_10, ji_12, ji_29, ji_30, ji_31, ji_40, ji_60, ji_70, ji_80, ji_81, ji_360, ji_512, ji_972, ji_1000000, ji_2147483639, jl_m1, jl_0, jl_1]
    exact ⟨fun _ => hex h2 _ _ hT hA hB, fun w => absurd (Int32.le_refl _) w⟩
  | succ k ih =>
    intro i0 h2 y hi hT hA hB
    have hin : i0 < n := by omega
    have hi81 : i0 < 81 := by omega
    have hnle : ¬ nI n ≤ nI i0 := nI_ge hin (by omega)
    have hnle2 : ¬ nI 81 ≤ nI i0 := nI_ge hi81 (by omega)
    have h10 : ¬ (1 : Int32) = 0 := by decide
    have c2 := cI2 h2 hT
    have kV : zK h2 (ad 0 0) = 7 := by rw [hT.1]; exact c0.1.1
    have r448 : zR h2 448 (ad 0 0) = some (ad 1 0) := by rw [hT.2.2.1]; exact c0.2.1.1
    have kA2 : zK h2 A = 2 := by rw [hT.1]; exact kA
    have rA2 : zR h2 128 A = some R := by rw [hT.2.2.1]; exact rA
    have kR2 : zK h2 R = 12 := by rw [hT.1]; exact kR
    have lR2 : zL h2 R = 81 := by rw [hT.2.2.2.1]; exact lR
    have i455 : zI h2 455 (ad 0 0) = s.1 0 := by rw [hT.2.1, c0.2.2.2.1]; exact hf0
    have i458 : zI h2 458 (ad 0 0) = vWr q s := by rw [hT.2.1, c0.2.2.2.2.2.2.1]; exact hf3
    obtain ⟨⟨k5, t5⟩, f0, f1, f3, f5, f6, f4, f2⟩ := c2.2 i0 hin
    have fin : ∀ b y, b = rAc s n 0 i0 → jd_w g (d + 3) 28 Q 38 [some (.ref (ad 0 0)), some (.ref A), some (.int (nI (i0 + 1))), y] [] (wA h2 R i0 b) 1 800 := fun b y hb => by
      refine ih (i0 + 1) _ y (by omega) (DT_wt hT) (fun i hi => ?_) (fun i hi => ?_)
      · rw [rw_AA]
        by_cases e : i = i0
        · rw [if_pos ⟨rfl, e⟩, e]; exact hb
        · rw [if_neg (fun z => e z.2)]; exact hA i (by omega)
      · rw [rw_AA, if_neg (fun z => by omega)]; exact hB i (by omega)
    rw [e28_38]
    simp only [e28_39, e28_40, e28_43, o_iload, o_lload, o_aload, o_istore, o_lstore, o_astore, o_iinc, o_ipush, o_lpush, o_null, o_ibin, o_ineg, o_lbin, o_ldv, o_lneg, o_lcmp, o_i2l, o_l2i, o_dup, o_pop, o_dupx, o_dup2, o_ic, o_iz, o_nul, o_acmp, o_tsw, o_gI, o_gR, o_pI, o_pZ, o_pR, o_iald, o_bald, o_lald, o_aald, o_iast, o_bast, o_last, o_aast, o_alen, o_newa, o_new, o_mna, o_cast, o_calls, o_callv, o_calli, o_oinit, o_getC, o_refp, o_cpi, o_cpo, o_mmax, o_mmin, o_lmin, o_iret, o_zret, o_lret, o_aret, o_vret, jd_lo, jd_la, jd_nl, jd_pop, List.length_cons, List.length_nil, List.set_cons_zero, List.set_cons_succ, List.getElem?_cons_zero, List.getElem?_cons_succ, List.replicate_succ, List.replicate_zero, List.cons_append, List.nil_append, List.append_nil, Value.category, Option.toList, va_rf, true_implies, false_implies, false_and, and_false, and_true, true_and, and_self, true_or, or_true, false_or, or_false, not_true_eq_false, not_false_eq_true, forall_const, implies_true, if_true, if_false, reduceCtorEq, reduceIte, Nat.reduceAdd, Nat.reduceMul, Nat.reduceSub, Nat.reduceDiv, Nat.reduceMod, Nat.reduceEqDiff, Nat.reduceLeDiff, Nat.reduceLT, Nat.zero_le, Nat.lt_add_one, Nat.le_refl, Nat.sub_zero, Nat.zero_lt_succ, ge_iff_le, ji_m2, ji_m1, ji_0, ji_1, ji_2, ji_3, ji_4, ji_5, ji_6, ji_7, ji_8, ji_10, ji_12, ji_29, ji_30, ji_31, ji_40, ji_60, ji_70, ji_80, ji_81, ji_360, ji_512, ji_972, ji_1000000, ji_2147483639, jl_m1, jl_0, jl_1, kV, r448, vLS_K c2.1]
    refine k_lsize (d := d + 2) c2.1 ?_
    simp only [e28_48, e28_51, e28_52, e28_54, e28_57, e28_58, e28_61, e28_62, o_iload, o_lload, o_aload, o_istore, o_lstore, o_astore, o_iinc, o_ipush, o_lpush, o_null, o_ibin, o_ineg, o_lbin, o_ldv, o_lneg, o_lcmp, o_i2l, o_l2i, o_dup, o_pop, o_dupx, o_dup2, o_ic, o_iz, o_nul, o_acmp, o_tsw, o_gI, o_gR, o_pI, o_pZ, o_pR, o_iald, o_bald, o_lald, o_aald, o_iast, o_bast, o_last, o_aast, o_alen, o_newa, o_new, o_mna, o_cast, o_calls, o_callv, o_calli, o_oinit, o_getC, o_refp, o_cpi, o_cpo, o_mmax, o_mmin, o_lmin, o_iret, o_zret, o_lret, o_aret, o_vret, jd_lo, jd_la, jd_nl, jd_pop, List.length_cons, List.length_nil, List.set_cons_zero, List.set_cons_succ, List.getElem?_cons_zero, List.getElem?_cons_succ, List.replicate_succ, List.replicate_zero, List.cons_append, List.nil_append, List.append_nil, Value.category, Option.toList, va_rf, true_implies, false_implies, false_and, and_false, and_true, true_and, and_self, true_or, or_true, false_or, or_false, not_true_eq_false, not_false_eq_true, forall_const, implies_true, if_true, if_false, reduceCtorEq, reduceIte, Nat.reduceAdd, Nat.reduceMul, Nat.reduceSub, Nat.reduceDiv, Nat.reduceMod, Nat.reduceEqDiff, Nat.reduceLeDiff, Nat.reduceLT, Nat.zero_le, Nat.lt_add_one, Nat.le_refl, Nat.sub_zero, Nat.zero_lt_succ, ge_iff_le, ji_m2, ji_m1, ji_0, ji_1, ji_2, ji_3, ji_4, ji_5, ji_6, ji_7, ji_8, ji_10, ji_12, ji_29, ji_30, ji_31, ji_40, ji_60, ji_70, ji_80, ji_81, ji_360, ji_512, ji_972, ji_1000000, ji_2147483639, jl_m1, jl_0, jl_1, j81, hnle, hnle2, kV, r448, vLS_K c2.1]
    refine k_lget (d := d) c2.1 hin ?_
    simp only [e28_67, e28_70, e28_71, e28_72, e28_75, e28_76, e28_77, e28_78, o_iload, o_lload, o_aload, o_istore, o_lstore, o_astore, o_iinc, o_ipush, o_lpush, o_null, o_ibin, o_ineg, o_lbin, o_ldv, o_lneg, o_lcmp, o_i2l, o_l2i, o_dup, o_pop, o_dupx, o_dup2, o_ic, o_iz, o_nul, o_acmp, o_tsw, o_gI, o_gR, o_pI, o_pZ, o_pR, o_iald, o_bald, o_lald, o_aald, o_iast, o_bast, o_last, o_aast, o_alen, o_newa, o_new, o_mna, o_cast, o_calls, o_callv, o_calli, o_oinit, o_getC, o_refp, o_cpi, o_cpo, o_mmax, o_mmin, o_lmin, o_iret, o_zret, o_lret, o_aret, o_vret, jd_lo, jd_la, jd_nl, jd_pop, List.length_cons, List.length_nil, List.set_cons_zero, List.set_cons_succ, List.getElem?_cons_zero, List.getElem?_cons_succ, List.replicate_succ, List.replicate_zero, List.cons_append, List.nil_append, List.append_nil, Value.category, Option.toList, va_rf, true_implies, false_implies, false_and, and_false, and_true, true_and, and_self, true_or, or_true, false_or, or_false, not_true_eq_false, not_false_eq_true, forall_const, implies_true, if_true, if_false, reduceCtorEq, reduceIte, Nat.reduceAdd, Nat.reduceMul, Nat.reduceSub, Nat.reduceDiv, Nat.reduceMod, Nat.reduceEqDiff, Nat.reduceLeDiff, Nat.reduceLT, Nat.zero_le, Nat.lt_add_one, Nat.le_refl, Nat.sub_zero, Nat.zero_lt_succ, ge_iff_le, ji_m2, ji_m1, ji_0, ji_1, ji_2, ji_3, ji_4, ji_5, ji_6, ji_7, ji_8, ji_10, ji_12, ji_29, ji_30, ji_31, ji_40, ji_60, ji_70, ji_80, ji_81, ji_360, ji_512, ji_972, ji_1000000, ji_2147483639, jl_m1, jl_0, jl_1, k5, kA2, rA2, kV]
    refine k_aboard (d := d + 2) kV k5 ?_
    rw [f5, i458, i455, aboard_val hI hJ hin]
    by_cases h8 : s.2.1 8 i0 = 0
    · rw [h8]
      simp only [e28_81, e28_95, e28_96, e28_97, e28_100, o_iload, o_lload, o_aload, o_istore, o_lstore, o_astore, o_iinc, o_ipush, o_lpush, o_null, o_ibin, o_ineg, o_lbin, o_ldv, o_lneg, o_lcmp, o_i2l, o_l2i, o_dup, o_pop, o_dupx, o_dup2, o_ic, o_iz, o_nul, o_acmp, o_tsw, o_gI, o_gR, o_pI, o_pZ, o_pR, o_iald, o_bald, o_lald, o_aald, o_iast, o_bast, o_last, o_aast, o_alen, o_newa, o_new, o_mna, o_cast, o_calls, o_callv, o_calli, o_oinit, o_getC, o_refp, o_cpi, o_cpo, o_mmax, o_mmin, o_lmin, o_iret, o_zret, o_lret, o_aret, o_vret, jd_lo, jd_la, jd_nl, jd_pop, List.length_cons, List.length_nil, List.set_cons_zero, List.set_cons_succ, List.getElem?_cons_zero, List.getElem?_cons_succ, List.replicate_succ, List.replicate_zero, List.cons_append, List.nil_append, List.append_nil, Value.category, Option.toList, va_rf, true_implies, false_implies, false_and, and_false, and_true, true_and, and_self, true_or, or_true, false_or, or_false, not_true_eq_false, not_false_eq_true, forall_const, implies_true, if_true, if_false, reduceCtorEq, reduceIte, Nat.reduceAdd, Nat.reduceMul, Nat.reduceSub, Nat.reduceDiv, Nat.reduceMod, Nat.reduceEqDiff, Nat.reduceLeDiff, Nat.reduceLT, Nat.zero_le, Nat.lt_add_one, Nat.le_refl, Nat.sub_zero, Nat.zero_lt_succ, ge_iff_le, ji_m2, ji_m1, ji_0, ji_1, ji_2, ji_3, ji_4, ji_5, ji_6, ji_7, ji_8, ji_10, ji_12, ji_29, ji_30, ji_31, ji_40, ji_60, ji_70, ji_80, ji_81, ji_360, ji_512, ji_972, ji_1000000, ji_2147483639, jl_m1, jl_0, jl_1, kR2, lR2, jn_in hi81 (by decide), jn_cl hi81 (by decide), jn_sc]
      exact fin 0 _ (if_neg (fun z => z.2.2.1 h8)).symm
    · have h81 := jbit (hI.2.2.2.2.2.2.2 i0 hin).1 h8
      rw [h81]
      simp only [e28_81, e28_84, e28_85, e28_88, e28_91, e28_92, e28_95, e28_96, e28_97, e28_100, o_iload, o_lload, o_aload, o_istore, o_lstore, o_astore, o_iinc, o_ipush, o_lpush, o_null, o_ibin, o_ineg, o_lbin, o_ldv, o_lneg, o_lcmp, o_i2l, o_l2i, o_dup, o_pop, o_dupx, o_dup2, o_ic, o_iz, o_nul, o_acmp, o_tsw, o_gI, o_gR, o_pI, o_pZ, o_pR, o_iald, o_bald, o_lald, o_aald, o_iast, o_bast, o_last, o_aast, o_alen, o_newa, o_new, o_mna, o_cast, o_calls, o_callv, o_calli, o_oinit, o_getC, o_refp, o_cpi, o_cpo, o_mmax, o_mmin, o_lmin, o_iret, o_zret, o_lret, o_aret, o_vret, jd_lo, jd_la, jd_nl, jd_pop, List.length_cons, List.length_nil, List.set_cons_zero, List.set_cons_succ, List.getElem?_cons_zero, List.getElem?_cons_succ, List.replicate_succ, List.replicate_zero, List.cons_append, List.nil_append, List.append_nil, Value.category, Option.toList, va_rf, true_implies, false_implies, false_and, and_false, and_true, true_and, and_self, true_or, or_true, false_or, or_false, not_true_eq_false, not_false_eq_true, forall_const, implies_true, if_true, if_false, reduceCtorEq, reduceIte, Nat.reduceAdd, Nat.reduceMul, Nat.reduceSub, Nat.reduceDiv, Nat.reduceMod, Nat.reduceEqDiff, Nat.reduceLeDiff, Nat.reduceLT, Nat.zero_le, Nat.lt_add_one, Nat.le_refl, Nat.sub_zero, Nat.zero_lt_succ, ge_iff_le, ji_m2, ji_m1, ji_0, ji_1, ji_2, ji_3, ji_4, ji_5, ji_6, ji_7, ji_8, ji_10, ji_12, ji_29, ji_30, ji_31, ji_40, ji_60, ji_70, ji_80, ji_81, ji_360, ji_512, ji_972, ji_1000000, ji_2147483639, jl_m1, jl_0, jl_1, h10, k5, f2, kR2, lR2, jn_in hi81 (by decide), jn_cl hi81 (by decide), jn_sc]
      refine ⟨fun z => ?_, fun z => ?_⟩
      · exact fin 0 _ (if_neg (fun w => absurd w.2.2.2 (Int32.not_lt.mpr z))).symm
      · exact fin 1 _ (if_pos ⟨rfl, hin, h8, Int32.not_le.mp z⟩).symm
set_option maxRecDepth 100000 in
theorem k_beginAct (c : cVoy h tg ad aj v po w0 q l) (cJ : cVJ h tg aj) (hl : l.length ≤ 511) (hQ0 : vDo (nI q) po (rep (nI q) po w0 l) (ev7 2 0 0 0 0 0 0) = none → Q (some (.int (-1))) h) (hQ1 : ∀ r s' h' tg' ad', vDo (nI q) po (rep (nI q) po w0 l) (ev7 2 0 0 0 0 0 0) = some (r, s') → cVoy h' tg' ad' aj v po w0 q ((ev7 2 0 0 0 0 0 0) :: l) → ad' 0 0 = ad 0 0 → cVJ h' tg' aj → AG (PV v) h h' tg tg' → Q (some (.int r)) h') : jd_WM g (d + 10) 28 [.ref (ad 0 0)] h Q := by
  refine ⟨Nat.le_of_ble_eq_true rfl, ?_⟩; show jd_w g (d + 9) 28 Q 0 [some (.ref (ad 0 0)), none, none, none] [] h 11 2082
  obtain ⟨n, lo, na, p, hI, hJ⟩ := cVoy_IJ c
  obtain ⟨⟨hV, hO, hK⟩, c0, cI, cA, cE, cS, cW, cR⟩ := c
  generalize hs : rep (nI q) po w0 l = s at hI hJ c0 cI cA cR hQ0 hQ1
  have hn81 := IV_81 hI
  have hcn := IV_cn hI
  have hca := IV_ca hI
  have hna := hI.2.2.1.2
  have hs3 := hI.2.2.1.1
  rw [hcn] at cI
  rw [hca] at cA
  obtain ⟨⟨kV, tV⟩, ⟨r448, r449, r450, r451, r454⟩, ⟨i452, i453⟩, i455, i456, i457, i458, i459⟩ := id c0
  have h10 : ¬ (1 : Int32) = 0 := by decide
  rw [fS_2] at i457
  simp only [e28_0, e28_1, o_iload, o_lload, o_aload, o_istore, o_lstore, o_astore, o_iinc, o_ipush, o_lpush, o_null, o_ibin, o_ineg, o_lbin, o_ldv, o_lneg, o_lcmp, o_i2l, o_l2i, o_dup, o_pop, o_dupx, o_dup2, o_ic, o_iz, o_nul, o_acmp, o_tsw, o_gI, o_gR, o_pI, o_pZ, o_pR, o_iald, o_bald, o_lald, o_aald, o_iast, o_bast, o_last, o_aast, o_alen, o_newa, o_new, o_mna, o_cast, o_calls, o_callv, o_calli, o_oinit, o_getC, o_refp, o_cpi, o_cpo, o_mmax, o_mmin, o_lmin, o_iret, o_zret, o_lret, o_aret, o_vret, jd_lo, jd_la, jd_nl, jd_pop, List.length_cons, List.length_nil, List.set_cons_zero, List.set_cons_succ, List.getElem?_cons_zero, List.getElem?_cons_succ, List.replicate_succ, List.replicate_zero, List.cons_append, List.nil_append, List.append_nil, Value.category, Option.toList, va_rf, true_implies, false_implies, false_and, and_false, and_true, true_and, and_self, true_or, or_true, false_or, or_false, not_true_eq_false, not_false_eq_true, forall_const, implies_true, if_true, if_false, reduceCtorEq, reduceIte, Nat.reduceAdd, Nat.reduceMul, Nat.reduceSub, Nat.reduceDiv, Nat.reduceMod, Nat.reduceEqDiff, Nat.reduceLeDiff, Nat.reduceLT, Nat.zero_le, Nat.lt_add_one, Nat.le_refl, Nat.sub_zero, Nat.zero_lt_succ, ge_iff_le, ji_m2, ji_m1, ji_0, ji_1, ji_2, ji_3, ji_4, ji_5, ji_6, ji_7, ji_8, ji_10, ji_12, ji_29, ji_30, ji_31, ji_40, ji_60, ji_70, ji_80, ji_81, ji_360, ji_512, ji_972, ji_1000000, ji_2147483639, jl_m1, jl_0, jl_1, kV]
  refine k_takesV (d := d + 7) hI hJ c0 cE hl ?_
  by_cases hE6 : s.1 6 = 0
  · rw [if_pos hE6]
    have hvd0 : vDo (nI q) po s (ev7 2 0 0 0 0 0 0) = vAct s := vDo_2 hE6 rfl
    simp only [e28_4, e28_7, e28_8, e28_11, o_iload, o_lload, o_aload, o_istore, o_lstore, o_astore, o_iinc, o_ipush, o_lpush, o_null, o_ibin, o_ineg, o_lbin, o_ldv, o_lneg, o_lcmp, o_i2l, o_l2i, o_dup, o_pop, o_dupx, o_dup2, o_ic, o_iz, o_nul, o_acmp, o_tsw, o_gI, o_gR, o_pI, o_pZ, o_pR, o_iald, o_bald, o_lald, o_aald, o_iast, o_bast, o_last, o_aast, o_alen, o_newa, o_new, o_mna, o_cast, o_calls, o_callv, o_calli, o_oinit, o_getC, o_refp, o_cpi, o_cpo, o_mmax, o_mmin, o_lmin, o_iret, o_zret, o_lret, o_aret, o_vret, jd_lo, jd_la, jd_nl, jd_pop, List.length_cons, List.length_nil, List.set_cons_zero, List.set_cons_succ, List.getElem?_cons_zero, List.getElem?_cons_succ, List.replicate_succ, List.replicate_zero, List.cons_append, List.nil_append, List.append_nil, Value.category, Option.toList, va_rf, true_implies, false_implies, false_and, and_false, and_true, true_and, and_self, true_or, or_true, false_or, or_false, not_true_eq_false, not_false_eq_true, forall_const, implies_true, if_true, if_false, reduceCtorEq, reduceIte, Nat.reduceAdd, Nat.reduceMul, Nat.reduceSub, Nat.reduceDiv, Nat.reduceMod, Nat.reduceEqDiff, Nat.reduceLeDiff, Nat.reduceLT, Nat.zero_le, Nat.lt_add_one, Nat.le_refl, Nat.sub_zero, Nat.zero_lt_succ, ge_iff_le, ji_m2, ji_m1, ji_0, ji_1, ji_2, ji_3, ji_4, ji_5, ji_6, ji_7, ji_8, ji_10, ji_12, ji_29, ji_30, ji_31, ji_40, ji_60, ji_70, ji_80, ji_81, ji_360, ji_512, ji_972, ji_1000000, ji_2147483639, jl_m1, jl_0, jl_1, h10, kV, r449, vLS_K cA.1]
    refine k_lsize (d := d + 8) cA.1 ?_
    by_cases h12 : s.1 3 = 12
    · have hna12 : na = 12 := (nI_eq (by omega) (by decide)).mp (hs3.symm.trans h12)
      have nlt : ¬ nI na < 12 := by rw [hna12]; decide
      simp only [e28_16, e28_18, e28_21, e28_22, o_iload, o_lload, o_aload, o_istore, o_lstore, o_astore, o_iinc, o_ipush, o_lpush, o_null, o_ibin, o_ineg, o_lbin, o_ldv, o_lneg, o_lcmp, o_i2l, o_l2i, o_dup, o_pop, o_dupx, o_dup2, o_ic, o_iz, o_nul, o_acmp, o_tsw, o_gI, o_gR, o_pI, o_pZ, o_pR, o_iald, o_bald, o_lald, o_aald, o_iast, o_bast, o_last, o_aast, o_alen, o_newa, o_new, o_mna, o_cast, o_calls, o_callv, o_calli, o_oinit, o_getC, o_refp, o_cpi, o_cpo, o_mmax, o_mmin, o_lmin, o_iret, o_zret, o_lret, o_aret, o_vret, jd_lo, jd_la, jd_nl, jd_pop, List.length_cons, List.length_nil, List.set_cons_zero, List.set_cons_succ, List.getElem?_cons_zero, List.getElem?_cons_succ, List.replicate_succ, List.replicate_zero, List.cons_append, List.nil_append, List.append_nil, Value.category, Option.toList, va_rf, true_implies, false_implies, false_and, and_false, and_true, true_and, and_self, true_or, or_true, false_or, or_false, not_true_eq_false, not_false_eq_true, forall_const, implies_true, if_true, if_false, reduceCtorEq, reduceIte, Nat.reduceAdd, Nat.reduceMul, Nat.reduceSub, Nat.reduceDiv, Nat.reduceMod, Nat.reduceEqDiff, Nat.reduceLeDiff, Nat.reduceLT, Nat.zero_le, Nat.lt_add_one, Nat.le_refl, Nat.sub_zero, Nat.zero_lt_succ, ge_iff_le, ji_m2, ji_m1, ji_0, ji_1, ji_2, ji_3, ji_4, ji_5, ji_6, ji_7, ji_8, ji_10, ji_12, ji_29, ji_30, ji_31, ji_40, ji_60, ji_70, ji_80, ji_81, ji_360, ji_512, ji_972, ji_1000000, ji_2147483639, jl_m1, jl_0, jl_1, nlt]
      exact hQ0 (hvd0.trans (if_pos h12))
    · have hna11 : na < 12 := by
        by_cases e : na = 12
        · exact absurd (by rw [hs3, e]; rfl) h12
        · omega
      have nlt : nI na < 12 := nI_lt (b := 12) hna11 (by decide)
      have hvd1 : vAct s = some (s.1 3, (u1 (u1 s.1 4 (s.1 3)) 3 (s.1 3 + 1), s.2.1, (fun k a i => if a = ca s then (if k = 0 ∧ i < cn s ∧ ¬ s.2.1 8 i = 0 ∧ 0 < s.2.1 2 i then 1 else 0) else s.2.2.1 k a i), (fun a o => if a = ca s then 0 else s.2.2.2 a o))) := if_neg h12
      rw [hcn, hca] at hvd1
      obtain ⟨hI', hJ'⟩ := IJ_act hI hJ hE6 hvd1
      have hvd := hvd0.trans hvd1
      have hcn' := IV_cn hI'
      have hca' := IV_ca hI'
      simp only [e28_16, e28_18, e28_21, e28_22, e28_23, e28_24, e28_25, o_iload, o_lload, o_aload, o_istore, o_lstore, o_astore, o_iinc, o_ipush, o_lpush, o_null, o_ibin, o_ineg, o_lbin, o_ldv, o_lneg, o_lcmp, o_i2l, o_l2i, o_dup, o_pop, o_dupx, o_dup2, o_ic, o_iz, o_nul, o_acmp, o_tsw, o_gI, o_gR, o_pI, o_pZ, o_pR, o_iald, o_bald, o_lald, o_aald, o_iast, o_bast, o_last, o_aast, o_alen, o_newa, o_new, o_mna, o_cast, o_calls, o_callv, o_calli, o_oinit, o_getC, o_refp, o_cpi, o_cpo, o_mmax, o_mmin, o_lmin, o_iret, o_zret, o_lret, o_aret, o_vret, jd_lo, jd_la, jd_nl, jd_pop, List.length_cons, List.length_nil, List.set_cons_zero, List.set_cons_succ, List.getElem?_cons_zero, List.getElem?_cons_succ, List.replicate_succ, List.replicate_zero, List.cons_append, List.nil_append, List.append_nil, Value.category, Option.toList, va_rf, true_implies, false_implies, false_and, and_false, and_true, true_and, and_self, true_or, or_true, false_or, or_false, not_true_eq_false, not_false_eq_true, forall_const, implies_true, if_true, if_false, reduceCtorEq, reduceIte, Nat.reduceAdd, Nat.reduceMul, Nat.reduceSub, Nat.reduceDiv, Nat.reduceMod, Nat.reduceEqDiff, Nat.reduceLeDiff, Nat.reduceLT, Nat.zero_le, Nat.lt_add_one, Nat.le_refl, Nat.sub_zero, Nat.zero_lt_succ, ge_iff_le, ji_m2, ji_m1, ji_0, ji_1, ji_2, ji_3, ji_4, ji_5, ji_6, ji_7, ji_8, ji_10, ji_12, ji_29, ji_30, ji_31, ji_40, ji_60, ji_70, ji_80, ji_81, ji_360, ji_512, ji_972, ji_1000000, ji_2147483639, jl_m1, jl_0, jl_1, nlt, kV]
      refine k_note (d := d) cE kV r450 hl (by decide) (fun h2 tg2 ad2 hd2 cE2 hG2 => ?_)
      have d16 : ∀ k i, k ≠ 16 → ad2 k i = ad k i := fun k i hk => hd2 k i (fun z => hk z.1)
      have c02 := cV0_fr c0 hG2 (by unfold Tg; omega)
      have cI2 := cVI_fr cI hG2 (by unfold Tg; omega) (fun i hi => by unfold Tg; omega)
      have cA2 := cVA_fr cA hG2 (by unfold Tg; omega) (fun a k _ _ _ => by unfold Tg; omega)
      have cS2 := cVS_fr cS hG2 (by unfold Tg; omega)
      have cJ2 := cVJ_fr cJ hG2 (by unfold Tg; omega)
      have hG3 : AG (fun u => u ≠ Tg v 0 0) h2 (wI h2 457 (ad 0 0) (-1)) tg2 tg2 := AG_wI (fun z => z c02.1.2)
      have c03 := cV0_w (k := 2) (x := -1) c02 (by decide)
      have cI3 := cVI_fr cI2 hG3 (by unfold Tg; omega) (fun i hi => by unfold Tg; omega)
      have cA3 := cVA_fr cA2 hG3 (by unfold Tg; omega) (fun a k _ _ _ => by unfold Tg; omega)
      have cE3 := cVE_fr cE2 hG3 (by unfold Tg; omega) (fun i hi => by unfold Tg; omega)
      have cS3 := cVS_fr cS2 hG3 (by unfold Tg; omega)
      have cJ3 := cVJ_fr cJ2 hG3 (by unfold Tg; omega)
      have c03 : cV0 (wI h2 457 (ad 0 0) (-1)) tg2 ad aj v po q (u1 (fS q s) 2 (-1)) := c03
      generalize wI h2 457 (ad 0 0) (-1) = h3 at hG3 c03 cI3 cA3 cE3 cS3 cJ3
      simp only [e28_28, e28_31, o_iload, o_lload, o_aload, o_istore, o_lstore, o_astore, o_iinc, o_ipush, o_lpush, o_null, o_ibin, o_ineg, o_lbin, o_ldv, o_lneg, o_lcmp, o_i2l, o_l2i, o_dup, o_pop, o_dupx, o_dup2, o_ic, o_iz, o_nul, o_acmp, o_tsw, o_gI, o_gR, o_pI, o_pZ, o_pR, o_iald, o_bald, o_lald, o_aald, o_iast, o_bast, o_last, o_aast, o_alen, o_newa, o_new, o_mna, o_cast, o_calls, o_callv, o_calli, o_oinit, o_getC, o_refp, o_cpi, o_cpo, o_mmax, o_mmin, o_lmin, o_iret, o_zret, o_lret, o_aret, o_vret, jd_lo, jd_la, jd_nl, jd_pop, List.length_cons, List.length_nil, List.set_cons_zero, List.set_cons_succ, List.getElem?_cons_zero, List.getElem?_cons_succ, List.replicate_succ, List.replicate_zero, List.cons_append, List.nil_append, List.append_nil, Value.category, Option.toList, va_rf, true_implies, false_implies, false_and, and_false, and_true, true_and, and_self, true_or, or_true, false_or, or_false, not_true_eq_false, not_false_eq_true, forall_const, implies_true, if_true, if_false, reduceCtorEq, reduceIte, Nat.reduceAdd, Nat.reduceMul, Nat.reduceSub, Nat.reduceDiv, Nat.reduceMod, Nat.reduceEqDiff, Nat.reduceLeDiff, Nat.reduceLT, Nat.zero_le, Nat.lt_add_one, Nat.le_refl, Nat.sub_zero, Nat.zero_lt_succ, ge_iff_le, ji_m2, ji_m1, ji_0, ji_1, ji_2, ji_3, ji_4, ji_5, ji_6, ji_7, ji_8, ji_10, ji_12, ji_29, ji_30, ji_31, ji_40, ji_60, ji_70, ji_80, ji_81, ji_360, ji_512, ji_972, ji_1000000, ji_2147483639, jl_m1, jl_0, jl_1]
      intro A hA0
      simp only [e28_32, o_iload, o_lload, o_aload, o_istore, o_lstore, o_astore, o_iinc, o_ipush, o_lpush, o_null, o_ibin, o_ineg, o_lbin, o_ldv, o_lneg, o_lcmp, o_i2l, o_l2i, o_dup, o_pop, o_dupx, o_dup2, o_ic, o_iz, o_nul, o_acmp, o_tsw, o_gI, o_gR, o_pI, o_pZ, o_pR, o_iald, o_bald, o_lald, o_aald, o_iast, o_bast, o_last, o_aast, o_alen, o_newa, o_new, o_mna, o_cast, o_calls, o_callv, o_calli, o_oinit, o_getC, o_refp, o_cpi, o_cpo, o_mmax, o_mmin, o_lmin, o_iret, o_zret, o_lret, o_aret, o_vret, jd_lo, jd_la, jd_nl, jd_pop, List.length_cons, List.length_nil, List.set_cons_zero, List.set_cons_succ, List.getElem?_cons_zero, List.getElem?_cons_succ, List.replicate_succ, List.replicate_zero, List.cons_append, List.nil_append, List.append_nil, Value.category, Option.toList, va_rf, true_implies, false_implies, false_and, and_false, and_true, true_and, and_self, true_or, or_true, false_or, or_false, not_true_eq_false, not_false_eq_true, forall_const, implies_true, if_true, if_false, reduceCtorEq, reduceIte, Nat.reduceAdd, Nat.reduceMul, Nat.reduceSub, Nat.reduceDiv, Nat.reduceMod, Nat.reduceEqDiff, Nat.reduceLeDiff, Nat.reduceLT, Nat.zero_le, Nat.lt_add_one, Nat.le_refl, Nat.sub_zero, Nat.zero_lt_succ, ge_iff_le, ji_m2, ji_m1, ji_0, ji_1, ji_2, ji_3, ji_4, ji_5, ji_6, ji_7, ji_8, ji_10, ji_12, ji_29, ji_30, ji_31, ji_40, ji_60, ji_70, ji_80, ji_81, ji_360, ji_512, ji_972, ji_1000000, ji_2147483639, jl_m1, jl_0, jl_1]
      refine k_ainit (d := d + 7) (by rw [rw_KN, if_pos rfl]) (fun h4 r x4 => ?_)
      obtain ⟨y1, y2, y3, y4, y5⟩ := x4
      have rA : ∀ j, j < 7 → r j ≠ A := fun j hj z => by
        have := (y1 j hj).1
        rw [z, rw_KN, if_pos rfl] at this
        exact absurd this (by decide)
      have kA4 : zK h4 A = 2 := by
        rw [(y3 A (fun j hj z => rA j hj z.symm)).1, rw_KN, if_pos rfl]
      have r0 : ∀ j, j < 7 → zK h3 (r j) = 0 := fun j hj => by
        have := (y1 j hj).1
        rw [rw_KN, if_neg (rA j hj)] at this
        exact this
      have hG4 : ∀ P : Nat → Prop, AG P h3 h4 tg2 (tgA tg2 A r v na) := fun P a ha => by
        have aA : a ≠ A := fun z => ha (by rw [z]; exact hA0)
        have ar : ∀ j, j < 7 → a ≠ r j := fun j hj z => ha (by rw [z]; exact r0 j hj)
        obtain ⟨z1, z2, z3, z4, z5⟩ := y3 a ar
        refine ⟨by rw [z1, rw_KN, if_neg aA], z2, tgA_o aA ar, fun _ => ⟨fun f => ?_, fun f => ?_, z3, z4, z5⟩⟩
        · rw [y4, rw_IN, if_neg aA]
        · rw [y5 f a aA, rw_RN, if_neg aA]
      have c04 := cV0_fr c03 (hG4 (fun _ => True)) trivial
      have cI4 := cVI_fr cI3 (hG4 (fun _ => True)) trivial (fun _ _ => trivial)
      have cA4 := cVA_fr cA3 (hG4 (fun _ => True)) trivial (fun _ _ _ _ _ => trivial)
      have cE4 := cVE_fr cE3 (hG4 (fun _ => True)) trivial (fun _ _ => trivial)
      have cS4 := cVS_fr cS3 (hG4 (fun _ => True)) trivial
      have cJ4 := cVJ_fr cJ3 (hG4 (fun _ => True)) trivial
      have q128 : zR h4 128 A = some (r 0) := (y1 0 (by decide)).2.2.2.1
      have tR : ∀ k, k < 7 → tgA tg2 A r v na (r k) = Tg v (7 + k) na := fun k hk => tgA_r y2 rA hk
      have tA : tgA tg2 A r v na A = Tg v 6 na := if_pos rfl
      simp only [e28_35, e28_36, e28_37, o_iload, o_lload, o_aload, o_istore, o_lstore, o_astore, o_iinc, o_ipush, o_lpush, o_null, o_ibin, o_ineg, o_lbin, o_ldv, o_lneg, o_lcmp, o_i2l, o_l2i, o_dup, o_pop, o_dupx, o_dup2, o_ic, o_iz, o_nul, o_acmp, o_tsw, o_gI, o_gR, o_pI, o_pZ, o_pR, o_iald, o_bald, o_lald, o_aald, o_iast, o_bast, o_last, o_aast, o_alen, o_newa, o_new, o_mna, o_cast, o_calls, o_callv, o_calli, o_oinit, o_getC, o_refp, o_cpi, o_cpo, o_mmax, o_mmin, o_lmin, o_iret, o_zret, o_lret, o_aret, o_vret, jd_lo, jd_la, jd_nl, jd_pop, List.length_cons, List.length_nil, List.set_cons_zero, List.set_cons_succ, List.getElem?_cons_zero, List.getElem?_cons_succ, List.replicate_succ, List.replicate_zero, List.cons_append, List.nil_append, List.append_nil, Value.category, Option.toList, va_rf, true_implies, false_implies, false_and, and_false, and_true, true_and, and_self, true_or, or_true, false_or, or_false, not_true_eq_false, not_false_eq_true, forall_const, implies_true, if_true, if_false, reduceCtorEq, reduceIte, Nat.reduceAdd, Nat.reduceMul, Nat.reduceSub, Nat.reduceDiv, Nat.reduceMod, Nat.reduceEqDiff, Nat.reduceLeDiff, Nat.reduceLT, Nat.zero_le, Nat.lt_add_one, Nat.le_refl, Nat.sub_zero, Nat.zero_lt_succ, ge_iff_le, ji_m2, ji_m1, ji_0, ji_1, ji_2, ji_3, ji_4, ji_5, ji_6, ji_7, ji_8, ji_10, ji_12, ji_29, ji_30, ji_31, ji_40, ji_60, ji_70, ji_80, ji_81, ji_360, ji_512, ji_972, ji_1000000, ji_2147483639, jl_m1, jl_0, jl_1]
      refine l_risk (d := d + 6) hI hJ c04 rfl rfl cI4 kA4 q128 ((y1 0 (by decide)).2.1) ((y1 0 (by decide)).2.2.1) (fun h5 x y hT5 hB5 hC5 => ?_) n 0 h4 none (by omega) DT_r (fun i hi => by omega) (fun _ _ => rfl)
      have hG5 : AG (fun u => u ≠ Tg v 7 na) h4 h5 (tgA tg2 A r v na) (tgA tg2 A r v na) := fun a ha => ⟨by rw [hT5.1], by rw [hT5.2.2.2.1], rfl, fun hp => ⟨fun f => by rw [hT5.2.1], fun f => by rw [hT5.2.2.1], hT5.2.2.2.2.2.1 a (fun z => hp (by rw [z]; exact tR 0 (by decide))), hT5.2.2.2.2.2.2 a (fun z => hp (by rw [z]; exact tR 0 (by decide))), by rw [hT5.2.2.2.2.1]⟩⟩
      have c05 := cV0_fr c04 hG5 (by unfold Tg; omega)
      have cI5 := cVI_fr cI4 hG5 (by unfold Tg; omega) (fun i hi => by unfold Tg; omega)
      have cA5 := cVA_fr cA4 hG5 (by unfold Tg; omega) (fun a k _ _ _ => by unfold Tg; omega)
      have cE5 := cVE_fr cE4 hG5 (by unfold Tg; omega) (fun i hi => by unfold Tg; omega)
      have cS5 := cVS_fr cS4 hG5 (by unfold Tg; omega)
      have cJ5 := cVJ_fr cJ4 hG5 (by unfold Tg; omega)
      have kA5 : zK h5 A = 2 := by rw [hT5.1]; exact kA4
      simp only [e28_103, e28_104, e28_107, e28_108, o_iload, o_lload, o_aload, o_istore, o_lstore, o_astore, o_iinc, o_ipush, o_lpush, o_null, o_ibin, o_ineg, o_lbin, o_ldv, o_lneg, o_lcmp, o_i2l, o_l2i, o_dup, o_pop, o_dupx, o_dup2, o_ic, o_iz, o_nul, o_acmp, o_tsw, o_gI, o_gR, o_pI, o_pZ, o_pR, o_iald, o_bald, o_lald, o_aald, o_iast, o_bast, o_last, o_aast, o_alen, o_newa, o_new, o_mna, o_cast, o_calls, o_callv, o_calli, o_oinit, o_getC, o_refp, o_cpi, o_cpo, o_mmax, o_mmin, o_lmin, o_iret, o_zret, o_lret, o_aret, o_vret, jd_lo, jd_la, jd_nl, jd_pop, List.length_cons, List.length_nil, List.set_cons_zero, List.set_cons_succ, List.getElem?_cons_zero, List.getElem?_cons_succ, List.replicate_succ, List.replicate_zero, List.cons_append, List.nil_append, List.append_nil, Value.category, Option.toList, va_rf, true_implies, false_implies, false_and, and_false, and_true, true_and, and_self, true_or, or_true, false_or, or_false, not_true_eq_false, not_false_eq_true, forall_const, implies_true, if_true, if_false, reduceCtorEq, reduceIte, Nat.reduceAdd, Nat.reduceMul, Nat.reduceSub, Nat.reduceDiv, Nat.reduceMod, Nat.reduceEqDiff, Nat.reduceLeDiff, Nat.reduceLT, Nat.zero_le, Nat.lt_add_one, Nat.le_refl, Nat.sub_zero, Nat.zero_lt_succ, ge_iff_le, ji_m2, ji_m1, ji_0, ji_1, ji_2, ji_3, ji_4, ji_5, ji_6, ji_7, ji_8, ji_10, ji_12, ji_29, ji_30, ji_31, ji_40, ji_60, ji_70, ji_80, ji_81, ji_360, ji_512, ji_972, ji_1000000, ji_2147483639, jl_m1, jl_0, jl_1, c05.1.1, c05.2.1.2.1, vLS_K cA5.1]
      refine k_ladd (d := d + 2) cA5.1 (by omega) (by rw [kA5]; decide) (by rw [kA5]; decide) (fun i hi => by rw [(cA5.2 i hi).1.1.1]; decide) (fun h6 tg6 hL6 hG6 => ?_)
      have c06 := cV0_fr c05 hG6 (by unfold Tg; omega)
      have cI6 := cVI_fr cI5 hG6 (by unfold Tg; omega) (fun i hi => by unfold Tg; omega)
      have cE6 := cVE_fr cE5 hG6 (by unfold Tg; omega) (fun i hi => by unfold Tg; omega)
      have cS6 := cVS_fr cS5 hG6 (by unfold Tg; omega)
      have cJ6 := cVJ_fr cJ5 hG6 (by unfold Tg; omega)
      have A0 : zK h5 A ≠ 0 := by rw [kA5]; decide
      have pA : tgA tg2 A r v na A ≠ Tg v 4 0 := by rw [tA]; unfold Tg; omega
      have R0 : ∀ k, k < 7 → zK h5 (r k) ≠ 0 := fun k hk => by
        rw [hT5.1, (y1 k hk).2.1]
        split <;> decide
      have pR : ∀ k, k < 7 → tgA tg2 A r v na (r k) ≠ Tg v 4 0 := fun k hk => by rw [tR k hk]; unfold Tg; omega
      have a6 : ∀ k, k < 7 → zA h6 (r k) = zA h5 (r k) := fun k hk => AG_A hG6 (R0 k hk) (pR k hk)
      -- the new act
      have oN : cAo h6 tg6 (adA ad A r na) v na := by
        have e6 : adA ad A r na 6 na = A := (if_pos ⟨rfl, by decide, by decide⟩).trans (if_pos rfl)
        have ek : ∀ k, k < 7 → adA ad A r na (7 + k) na = r k := fun k hk => (if_pos ⟨rfl, by omega, by omega⟩).trans ((if_neg (by omega)).trans (by congr 1; omega))
        refine ⟨?_, fun k hk => ?_⟩
        · rw [e6]
          exact ⟨AG_K hG6 kA5 (by decide), (AG_g hG6 A0).trans tA⟩
        · rw [e6, ek k hk, AG_R hG6 A0 pA, AG_g hG6 (R0 k hk), (hG6 _ (R0 k hk)).1, AG_L hG6 (R0 k hk), hT5.1, hT5.2.2.1, hT5.2.2.2.1]
          obtain ⟨w1, w2, w3, w4, w5⟩ := y1 k hk
          exact ⟨w4, tR k hk, w2, w3⟩
      have e6 : adA ad A r na 6 na = A := (if_pos ⟨rfl, by decide, by decide⟩).trans (if_pos rfl)
      have ek : ∀ k, k < 7 → adA ad A r na (7 + k) na = r k := fun k hk => (if_pos ⟨rfl, by omega, by omega⟩).trans ((if_neg (by omega)).trans (by congr 1; omega))
      have i6 : ∀ f, zI h6 f A = 0 := fun f => by
        rw [AG_I hG6 A0 pA, hT5.2.1, y4, rw_IN, if_pos rfl]
      have z6 : ∀ k, k < 7 → k ≠ 0 → ∀ i, zA h6 (r k) i = 0 := fun k hk hk0 i => by
        rw [a6 k hk, hT5.2.2.2.2.2.1 (r k) (fun z => hk0 (y2 k 0 hk (by decide) z))]
        exact (y1 k hk).2.2.2.2 i
      have z0 : ∀ i, i < 81 → zA h6 (r 0) i = rAc s n 0 i := fun i hi => by
        rw [a6 0 (by decide)]
        by_cases e : i < n
        · exact hB5 i e
        · rw [hC5 i (by omega), (y1 0 (by decide)).2.2.2.2 i]
          exact (if_neg (fun z => e z.2.1)).symm
      have aO : ∀ k a, a ≠ na → adA ad A r na k a = ad k a := fun k a ha => if_neg (fun z => ha z.1)
      have cA6 : cVA h6 tg6 (adA ad A r na) v (na + 1) (fun k a i => if a = na then (if k = 0 ∧ i < n ∧ ¬ s.2.1 8 i = 0 ∧ 0 < s.2.1 2 i then 1 else 0) else s.2.2.1 k a i) (fun a o => if a = na then 0 else s.2.2.2 a o) := by
        refine ⟨?_, fun a ha => ?_⟩
        · rw [show adA ad A r na 4 0 = ad 4 0 from if_neg (fun z => by omega)]
          refine vLS_cg hL6 (fun a ha => ?_)
          unfold u1
          by_cases e : a = na
          · rw [if_pos e, e]; exact e6
          · rw [if_neg e]; exact aO 6 a e
        · by_cases e : a = na
          · subst e
            refine ⟨oN, ?_⟩
            unfold cAc
            rw [e6, show adA ad A r a 7 a = r 0 from ek 0 (by decide), show adA ad A r a 8 a = r 1 from ek 1 (by decide), show adA ad A r a 9 a = r 2 from ek 2 (by decide), show adA ad A r a 12 a = r 5 from ek 5 (by decide), i6, i6]
            refine ⟨fun i hi => ⟨(z0 i hi).trans (if_pos rfl).symm, ?_, ?_⟩, fun o ho => (z6 5 (by decide) (by decide) o).trans (if_pos rfl).symm, ?_, ?_⟩
            · exact (z6 1 (by decide) (by decide) i).trans ((if_pos rfl).trans (if_neg (fun z => absurd z.1 (by decide)))).symm
            · exact (z6 2 (by decide) (by decide) i).trans ((if_pos rfl).trans (if_neg (fun z => absurd z.1 (by decide)))).symm
            · exact (si_0 30 (fun _ _ => if_pos rfl)).symm
            · exact (si_0 81 (fun i _ => (if_pos rfl).trans (if_neg (fun z => absurd z.1 (by decide))))).symm
          · have := (cVA_ad (a2 := adA ad A r na) cA5 (if_neg (fun z => by omega)) (fun a k ha _ _ => aO k a (by omega))).2 a (by omega)
            refine ⟨cAo_fr this.1 hG6 (by unfold Tg; omega), ?_⟩
            have := cAc_fr this.1 this.2 hG6 (by unfold Tg; omega) (by unfold Tg; omega) (by unfold Tg; omega) (by unfold Tg; omega) (by unfold Tg; omega)
            simp only [if_neg e]
            exact this
      have l6 : zI h6 66 (ad 4 0) = nI (na + 1) := vLS_n hL6
      have k6 : zK h6 (ad 4 0) = 1 := vLS_K hL6
      simp only [e28_113, e28_114, e28_115, e28_116, e28_119, o_iload, o_lload, o_aload, o_istore, o_lstore, o_astore, o_iinc, o_ipush, o_lpush, o_null, o_ibin, o_ineg, o_lbin, o_ldv, o_lneg, o_lcmp, o_i2l, o_l2i, o_dup, o_pop, o_dupx, o_dup2, o_ic, o_iz, o_nul, o_acmp, o_tsw, o_gI, o_gR, o_pI, o_pZ, o_pR, o_iald, o_bald, o_lald, o_aald, o_iast, o_bast, o_last, o_aast, o_alen, o_newa, o_new, o_mna, o_cast, o_calls, o_callv, o_calli, o_oinit, o_getC, o_refp, o_cpi, o_cpo, o_mmax, o_mmin, o_lmin, o_iret, o_zret, o_lret, o_aret, o_vret, jd_lo, jd_la, jd_nl, jd_pop, List.length_cons, List.length_nil, List.set_cons_zero, List.set_cons_succ, List.getElem?_cons_zero, List.getElem?_cons_succ, List.replicate_succ, List.replicate_zero, List.cons_append, List.nil_append, List.append_nil, Value.category, Option.toList, va_rf, true_implies, false_implies, false_and, and_false, and_true, true_and, and_self, true_or, or_true, false_or, or_false, not_true_eq_false, not_false_eq_true, forall_const, implies_true, if_true, if_false, reduceCtorEq, reduceIte, Nat.reduceAdd, Nat.reduceMul, Nat.reduceSub, Nat.reduceDiv, Nat.reduceMod, Nat.reduceEqDiff, Nat.reduceLeDiff, Nat.reduceLT, Nat.zero_le, Nat.lt_add_one, Nat.le_refl, Nat.sub_zero, Nat.zero_lt_succ, ge_iff_le, ji_m2, ji_m1, ji_0, ji_1, ji_2, ji_3, ji_4, ji_5, ji_6, ji_7, ji_8, ji_10, ji_12, ji_29, ji_30, ji_31, ji_40, ji_60, ji_70, ji_80, ji_81, ji_360, ji_512, ji_972, ji_1000000, ji_2147483639, jl_m1, jl_0, jl_1, c06.1.1, c06.2.1.2.1, k6]
      refine k_size (d := d + 8) k6 ?_
      rw [l6]
      have f7 := cV0_w (k := 2) (x := nI na) c06 (by decide)
      have hG7 : AG (fun u => u ≠ Tg v 0 0) h6 (wI h6 457 (ad 0 0) (nI na)) tg6 tg6 := AG_wI (fun z => z c06.1.2)
      simp only [e28_124, e28_125, e28_126, e28_129, e28_130, e28_133, o_iload, o_lload, o_aload, o_istore, o_lstore, o_astore, o_iinc, o_ipush, o_lpush, o_null, o_ibin, o_ineg, o_lbin, o_ldv, o_lneg, o_lcmp, o_i2l, o_l2i, o_dup, o_pop, o_dupx, o_dup2, o_ic, o_iz, o_nul, o_acmp, o_tsw, o_gI, o_gR, o_pI, o_pZ, o_pR, o_iald, o_bald, o_lald, o_aald, o_iast, o_bast, o_last, o_aast, o_alen, o_newa, o_new, o_mna, o_cast, o_calls, o_callv, o_calli, o_oinit, o_getC, o_refp, o_cpi, o_cpo, o_mmax, o_mmin, o_lmin, o_iret, o_zret, o_lret, o_aret, o_vret, jd_lo, jd_la, jd_nl, jd_pop, List.length_cons, List.length_nil, List.set_cons_zero, List.set_cons_succ, List.getElem?_cons_zero, List.getElem?_cons_succ, List.replicate_succ, List.replicate_zero, List.cons_append, List.nil_append, List.append_nil, Value.category, Option.toList, va_rf, true_implies, false_implies, false_and, and_false, and_true, true_and, and_self, true_or, or_true, false_or, or_false, not_true_eq_false, not_false_eq_true, forall_const, implies_true, if_true, if_false, reduceCtorEq, reduceIte, Nat.reduceAdd, Nat.reduceMul, Nat.reduceSub, Nat.reduceDiv, Nat.reduceMod, Nat.reduceEqDiff, Nat.reduceLeDiff, Nat.reduceLT, Nat.zero_le, Nat.lt_add_one, Nat.le_refl, Nat.sub_zero, Nat.zero_lt_succ, ge_iff_le, ji_m2, ji_m1, ji_0, ji_1, ji_2, ji_3, ji_4, ji_5, ji_6, ji_7, ji_8, ji_10, ji_12, ji_29, ji_30, ji_31, ji_40, ji_60, ji_70, ji_80, ji_81, ji_360, ji_512, ji_972, ji_1000000, ji_2147483639, jl_m1, jl_0, jl_1, rw_KI, rw_II, rw_RI, rw_LI, rw_AI, rw_JI, rw_OI, rw_KR, rw_IR, rw_RR, rw_LR, rw_AR, rw_JR, rw_OR, rw_KA, rw_IA, rw_RA, rw_LA, rw_AA, rw_JA, rw_OA, rw_KJ, rw_IJ, rw_RJ, rw_LJ, rw_AJ, rw_JJ, rw_OJ, rw_KO, rw_IO, rw_RO, rw_LO, rw_AO, rw_JO, rw_OO, rw_KAr, rw_IAr, rw_RAr, rw_LAr, rw_AAr, rw_JAr, rw_OAr, rw_KOr, rw_IOr, rw_ROr, rw_LOr, rw_AOr, rw_JOr, rw_OOr, rw_KN, rw_IN, rw_RN, rw_LN, rw_AN, rw_JN, rw_ON, rw_KY, rw_IY, rw_RY, rw_LY, rw_AY, rw_JY, rw_OY, nI_pred, c06.1.1]
      have cI7 := cVI_fr cI6 hG7 (by unfold Tg; omega) (fun i hi => by unfold Tg; omega)
      have cA7 := cVA_fr cA6 hG7 (by unfold Tg; omega) (fun a k _ _ _ => by unfold Tg; omega)
      have cE7 := cVE_fr cE6 hG7 (by unfold Tg; omega) (fun i hi => by unfold Tg; omega)
      have cS7 := cVS_fr cS6 hG7 (by unfold Tg; omega)
      have cJ7 := cVJ_fr cJ6 hG7 (by unfold Tg; omega)
      have dA : ∀ k i, ¬ (6 ≤ k ∧ k ≤ 13) → adA ad2 A r na k i = ad2 k i := fun k i hk => if_neg (fun z => hk z.2)
      have dA2 : ∀ k i, k ≠ 16 → adA ad2 A r na k i = adA ad A r na k i := fun k i hk => by
        unfold adA
        split
        · rfl
        · exact d16 k i hk
      have dA3 : ∀ k i, k ≠ 16 → ¬ (6 ≤ k ∧ k ≤ 13) → adA ad2 A r na k i = ad k i := fun k i hk hk2 => (dA k i hk2).trans (d16 k i hk)
      have hz := (congrArg (fun z => vDo (nI q) po z (ev7 2 0 0 0 0 0 0)) hs).trans hvd
      have cV : cVoy (wI h6 457 (ad 0 0) (nI na)) tg6 (adA ad2 A r na) aj v po w0 q (ev7 2 0 0 0 0 0 0 :: l) := by
        refine cVoy_mk hV hO hK ⟨2, by decide, rfl⟩ hz ?_ ?_ ?_ (cVE_cg (cVE_ad cE7 (dA 14 0 (by omega)) (fun k _ => dA 16 k (by omega))) (fun k hk => ?_)) ?_ (fun z => absurd z (show ¬ (2 : Int32) = 6 by decide)) (fun z => absurd hE6 z)
        · exact cV0_ad (cV0_cg f7 (fS_of rfl rfl hs3.symm rfl rfl)) (fun k hk => dA3 k 0 (by omega) (by omega))
        · rw [hcn']
          exact cVI_ad cI7 (dA3 1 0 (by decide) (by omega)) (fun i _ => dA3 3 i (by decide) (by omega))
        · rw [hca']
          exact cVA_ad cA7 (dA2 4 0 (by decide)) (fun a k _ _ _ => dA2 k a (by omega))
        · by_cases e : k = l.length
          · rw [if_pos e]
            funext c
            rw [if_pos e, i457, hs]
            rfl
          · rw [if_neg e]
            funext c
            rw [if_neg e]
        · exact cVS_ad cS7 (fun k _ _ => dA3 k 0 (by omega) (by omega))
      have fin := hQ1 _ _ (wI h6 457 (ad 0 0) (nI na)) tg6 (adA ad2 A r na) hvd cV (dA3 0 0 (by decide) (by omega)) cJ7 (AG_t (AG_w hG2 (fun u hu => by unfold PV Tg at hu; unfold Tg; omega)) (AG_t (AG_w hG3 (fun u hu => by unfold PV Tg at hu; unfold Tg; omega)) (AG_t (hG4 _) (AG_t (AG_w hG5 (fun u hu => by unfold PV Tg at hu; unfold Tg; omega)) (AG_t (AG_w hG6 (fun u hu => by unfold PV Tg at hu; unfold Tg; omega)) (AG_w hG7 (fun u hu => by unfold PV Tg at hu; unfold Tg; omega)))))))
      rw [hs3] at fin
      exact fin
  · rw [if_neg hE6]
    simp only [e28_4, e28_21, e28_22, o_iload, o_lload, o_aload, o_istore, o_lstore, o_astore, o_iinc, o_ipush, o_lpush, o_null, o_ibin, o_ineg, o_lbin, o_ldv, o_lneg, o_lcmp, o_i2l, o_l2i, o_dup, o_pop, o_dupx, o_dup2, o_ic, o_iz, o_nul, o_acmp, o_tsw, o_gI, o_gR, o_pI, o_pZ, o_pR, o_iald, o_bald, o_lald, o_aald, o_iast, o_bast, o_last, o_aast, o_alen, o_newa, o_new, o_mna, o_cast, o_calls, o_callv, o_calli, o_oinit, o_getC, o_refp, o_cpi, o_cpo, o_mmax, o_mmin, o_lmin, o_iret, o_zret, o_lret, o_aret, o_vret, jd_lo, jd_la, jd_nl, jd_pop, List.length_cons, List.length_nil, List.set_cons_zero, List.set_cons_succ, List.getElem?_cons_zero, List.getElem?_cons_succ, List.replicate_succ, List.replicate_zero, List.cons_append, List.nil_append, List.append_nil, Value.category, Option.toList, va_rf, true_implies, false_implies, false_and, and_false, and_true, true_and, and_self, true_or, or_true, false_or, or_false, not_true_eq_false, not_false_eq_true, forall_const, implies_true, if_true, if_false, reduceCtorEq, reduceIte, Nat.reduceAdd, Nat.reduceMul, Nat.reduceSub, Nat.reduceDiv, Nat.reduceMod, Nat.reduceEqDiff, Nat.reduceLeDiff, Nat.reduceLT, Nat.zero_le, Nat.lt_add_one, Nat.le_refl, Nat.sub_zero, Nat.zero_lt_succ, ge_iff_le, ji_m2, ji_m1, ji_0, ji_1, ji_2, ji_3, ji_4, ji_5, ji_6, ji_7, ji_8, ji_10, ji_12, ji_29, ji_30, ji_31, ji_40, ji_60, ji_70, ji_80, ji_81, ji_360, ji_512, ji_972, ji_1000000, ji_2147483639, jl_m1, jl_0, jl_1]
    exact hQ0 (vDo_E hE6)
end
