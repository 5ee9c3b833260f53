/-! the class: giveUp, spendFor, loseOf -/
section
variable {s : VS} {pp po : Int32} {e : Ev}
theorem vDo_E (h6 : ¬ s.1 6 = 0) : vDo pp po s e = none := if_pos h6
theorem vDo_0 (h6 : s.1 6 = 0) (q : e 0 = 0) : vDo pp po s e = vLoad pp po s (e 1) (e 2) (e 3) (e 4) (e 5) (e 6) := by
  unfold vDo; rw [if_neg (fun w => w h6), if_pos q]
theorem vDo_1 (h6 : s.1 6 = 0) (q : e 0 = 1) : vDo pp po s e = some (vMove pp s) := by
  unfold vDo; rw [if_neg (fun w => w h6), if_neg (by rw [q]; decide), if_pos q]
theorem vDo_2 (h6 : s.1 6 = 0) (q : e 0 = 2) : vDo pp po s e = vAct s := by
  unfold vDo; rw [if_neg (fun w => w h6), if_neg (by rw [q]; decide), if_neg (by rw [q]; decide), if_pos q]
theorem vDo_3 (h6 : s.1 6 = 0) (q : e 0 = 3) : vDo pp po s e = (if ¬ s.1 4 = -1 ∧ (0 ≤ e 1 ∧ e 1 ≤ s.1 1 - 1) ∧ s.2.1 6 (e 1).toNatClampNeg = -1 ∧ ¬ s.2.1 8 (e 1).toNatClampNeg = 0 ∧ 1 ≤ e 2 ∧ e 2 ≤ s.2.1 2 (e 1).toNatClampNeg then some (vGood s (e 1).toNatClampNeg (e 2), vGive1 s (ca s - 1) (e 1).toNatClampNeg (e 2)) else none) := by
  unfold vDo; rw [if_neg (fun w => w h6), if_neg (by rw [q]; decide), if_neg (by rw [q]; decide), if_neg (by rw [q]; decide), if_pos q]
theorem vDo_4 (h6 : s.1 6 = 0) (q : e 0 = 4) : vDo pp po s e = (if ¬ s.1 4 = -1 ∧ (0 ≤ e 1 ∧ e 1 ≤ 29) ∧ (1 ≤ e 2 ∧ e 2 ≤ 1000000) ∧ s.2.2.2 (ca s - 1) (e 1).toNatClampNeg ≤ 1000000 - e 2 then some (s.2.2.2 (ca s - 1) (e 1).toNatClampNeg + e 2, (s.1, s.2.1, s.2.2.1, u2 s.2.2.2 (ca s - 1) (e 1).toNatClampNeg (s.2.2.2 (ca s - 1) (e 1).toNatClampNeg + e 2))) else none) := by
  unfold vDo; rw [if_neg (fun w => w h6), if_neg (by rw [q]; decide), if_neg (by rw [q]; decide), if_neg (by rw [q]; decide), if_neg (by rw [q]; decide), if_pos q]
theorem vDo_5 (h6 : s.1 6 = 0) (q : e 0 = 5) : vDo pp po s e = (if (0 ≤ e 1 ∧ e 1 ≤ s.1 1 - 1) ∧ s.2.1 6 (e 1).toNatClampNeg = -1 ∧ ¬ s.2.1 8 (e 1).toNatClampNeg = 0 ∧ 1 ≤ e 2 ∧ e 2 ≤ s.2.1 2 (e 1).toNatClampNeg then some (s.2.1 2 (e 1).toNatClampNeg - e 2, vLose1 s (e 1).toNatClampNeg (e 2)) else none) := by
  unfold vDo; rw [if_neg (fun w => w h6), if_neg (by rw [q]; decide), if_neg (by rw [q]; decide), if_neg (by rw [q]; decide), if_neg (by rw [q]; decide), if_neg (by rw [q]; decide), if_pos q]
theorem vDo_6 (h6 : s.1 6 = 0) (q : e 0 = 6) : vDo pp po s e = (if s.1 5 = 0 then none else some (1, vLost s)) := by
  unfold vDo; rw [if_neg (fun w => w h6), if_neg (by rw [q]; decide), if_neg (by rw [q]; decide), if_neg (by rw [q]; decide), if_neg (by rw [q]; decide), if_neg (by rw [q]; decide), if_neg (by rw [q]; decide)]
theorem vTake_k {j k i : Nat} {x : Int32} (hk : k ≠ 2) : vTake s j x k i = s.2.1 k i := by
  unfold vTake
  split <;> simp [u2, hk]
end
section
variable {g d : Nat} {h : jd_H} {Q : jd_Q} {tg aj : Nat → Nat} {ad : Nat → Nat → Nat} {v q : Nat} {po w0 : Int32} {l : List Ev} {x y : Int32}
set_option maxRecDepth 100000 in
theorem k_spendFor (c : cVoy h tg ad aj v po w0 q l) (cJ : cVJ h tg aj) (hl : l.length ≤ 511) (hQ0 : vDo (nI q) po (rep (nI q) po w0 l) (ev7 4 x y 0 0 0 0) = none → Q (some (.int (-1))) h) (hQ1 : ∀ r s' h' tg' ad', vDo (nI q) po (rep (nI q) po w0 l) (ev7 4 x y 0 0 0 0) = some (r, s') → cVoy h' tg' ad' aj v po w0 q ((ev7 4 x y 0 0 0 0) :: l) → ad' 0 0 = ad 0 0 → cVJ h' tg' aj → AG (PV v) h h' tg tg' → Q (some (.int r)) h') : jd_WM g (d + 9) 30 [.ref (ad 0 0), .int x, .int y] h Q := by
  refine ⟨Nat.le_of_ble_eq_true rfl, ?_⟩; show jd_w g (d + 8) 30 Q 0 [some (.ref (ad 0 0)), some (.int x), some (.int y), none] [] h 2 805
  obtain ⟨n, lo, na, p, hI, hJ⟩ := cVoy_IJ c
  obtain ⟨⟨hV, hO, hK⟩, c0, cI, cA, cE, cS, cW, cR⟩ := c
  generalize hs : rep (nI q) po w0 l = s at hI hJ c0 cI cA cR hQ0 hQ1
  have hn81 := IV_81 hI
  have hcn := IV_cn hI
  have hca := IV_ca hI
  have hna := hI.2.2.1.2
  rw [hcn] at cI
  rw [hca] at cA
  obtain ⟨⟨kV, tV⟩, ⟨r448, r449, r450, r451, r454⟩, ⟨i452, i453⟩, i455, i456, i457, i458, i459⟩ := id c0
  have h10 : ¬ (1 : Int32) = 0 := by decide
  rw [fS_2] at i457
  simp only [e30_0, e30_1, e30_2, e30_5, o_iload, o_lload, o_aload, o_istore, o_lstore, o_astore, o_iinc, o_ipush, o_lpush, o_null, o_ibin, o_ineg, o_lbin, o_ldv, o_lneg, o_lcmp, o_i2l, o_l2i, o_dup, o_pop, o_dupx, o_dup2, o_ic, o_iz, o_nul, o_acmp, o_tsw, o_gI, o_gR, o_pI, o_pZ, o_pR, o_iald, o_bald, o_lald, o_aald, o_iast, o_bast, o_last, o_aast, o_alen, o_newa, o_new, o_mna, o_cast, o_calls, o_callv, o_calli, o_oinit, o_getC, o_refp, o_cpi, o_cpo, o_mmax, o_mmin, o_lmin, o_iret, o_zret, o_lret, o_aret, o_vret, jd_lo, jd_la, jd_nl, jd_pop, List.length_cons, List.length_nil, List.set_cons_zero, List.set_cons_succ, List.getElem?_cons_zero, List.getElem?_cons_succ, List.replicate_succ, List.replicate_zero, List.cons_append, List.nil_append, List.append_nil, Value.category, Option.toList, va_rf, true_implies, false_implies, false_and, and_false, and_true, true_and, and_self, true_or, or_true, false_or, or_false, not_true_eq_false, not_false_eq_true, forall_const, implies_true, if_true, if_false, reduceCtorEq, reduceIte, Nat.reduceAdd, Nat.reduceMul, Nat.reduceSub, Nat.reduceDiv, Nat.reduceMod, Nat.reduceEqDiff, Nat.reduceLeDiff, Nat.reduceLT, Nat.zero_le, Nat.lt_add_one, Nat.le_refl, Nat.sub_zero, Nat.zero_lt_succ, ge_iff_le, ji_m2, ji_m1, ji_0, ji_1, ji_2, ji_3, ji_4, ji_5, ji_6, ji_7, ji_8, ji_10, ji_12, ji_29, ji_30, ji_31, ji_40, ji_60, ji_70, ji_80, ji_81, ji_360, ji_512, ji_972, ji_1000000, ji_2147483639, jl_m1, jl_0, jl_1, kV, i457]
  refine k_aAt (d := d + 4) kV r449 cA.1 (by omega) (fun a ha => (cA.2 a ha).1.1.1) (fun a ha hop => ?_) (fun hno => ?_)
  · have hop1 : ¬ s.1 4 = -1 := by rw [hop]; exact jm1 (by omega)
    obtain ⟨hna1, hop2⟩ := hI.2.2.2.2.1.resolve_left hop1
    have hae : a = na - 1 := (nI_eq (by omega) (by omega)).mp (hop.symm.trans hop2)
    have ha1 : na - 1 < na := by omega
    subst hae
    simp only [e30_8, e30_9, e30_10, e30_13, e30_14, o_iload, o_lload, o_aload, o_istore, o_lstore, o_astore, o_iinc, o_ipush, o_lpush, o_null, o_ibin, o_ineg, o_lbin, o_ldv, o_lneg, o_lcmp, o_i2l, o_l2i, o_dup, o_pop, o_dupx, o_dup2, o_ic, o_iz, o_nul, o_acmp, o_tsw, o_gI, o_gR, o_pI, o_pZ, o_pR, o_iald, o_bald, o_lald, o_aald, o_iast, o_bast, o_last, o_aast, o_alen, o_newa, o_new, o_mna, o_cast, o_calls, o_callv, o_calli, o_oinit, o_getC, o_refp, o_cpi, o_cpo, o_mmax, o_mmin, o_lmin, o_iret, o_zret, o_lret, o_aret, o_vret, jd_lo, jd_la, jd_nl, jd_pop, List.length_cons, List.length_nil, List.set_cons_zero, List.set_cons_succ, List.getElem?_cons_zero, List.getElem?_cons_succ, List.replicate_succ, List.replicate_zero, List.cons_append, List.nil_append, List.append_nil, Value.category, Option.toList, va_rf, true_implies, false_implies, false_and, and_false, and_true, true_and, and_self, true_or, or_true, false_or, or_false, not_true_eq_false, not_false_eq_true, forall_const, implies_true, if_true, if_false, reduceCtorEq, reduceIte, Nat.reduceAdd, Nat.reduceMul, Nat.reduceSub, Nat.reduceDiv, Nat.reduceMod, Nat.reduceEqDiff, Nat.reduceLeDiff, Nat.reduceLT, Nat.zero_le, Nat.lt_add_one, Nat.le_refl, Nat.sub_zero, Nat.zero_lt_succ, ge_iff_le, ji_m2, ji_m1, ji_0, ji_1, ji_2, ji_3, ji_4, ji_5, ji_6, ji_7, ji_8, ji_10, ji_12, ji_29, ji_30, ji_31, ji_40, ji_60, ji_70, ji_80, ji_81, ji_360, ji_512, ji_972, ji_1000000, ji_2147483639, jl_m1, jl_0, jl_1, kV]
    refine k_takesV (d := d + 6) hI hJ c0 cE hl ?_
    by_cases h6 : s.1 6 = 0
    · rw [if_pos h6]
      simp only [e30_17, e30_20, e30_21, o_iload, o_lload, o_aload, o_istore, o_lstore, o_astore, o_iinc, o_ipush, o_lpush, o_null, o_ibin, o_ineg, o_lbin, o_ldv, o_lneg, o_lcmp, o_i2l, o_l2i, o_dup, o_pop, o_dupx, o_dup2, o_ic, o_iz, o_nul, o_acmp, o_tsw, o_gI, o_gR, o_pI, o_pZ, o_pR, o_iald, o_bald, o_lald, o_aald, o_iast, o_bast, o_last, o_aast, o_alen, o_newa, o_new, o_mna, o_cast, o_calls, o_callv, o_calli, o_oinit, o_getC, o_refp, o_cpi, o_cpo, o_mmax, o_mmin, o_lmin, o_iret, o_zret, o_lret, o_aret, o_vret, jd_lo, jd_la, jd_nl, jd_pop, List.length_cons, List.length_nil, List.set_cons_zero, List.set_cons_succ, List.getElem?_cons_zero, List.getElem?_cons_succ, List.replicate_succ, List.replicate_zero, List.cons_append, List.nil_append, List.append_nil, Value.category, Option.toList, va_rf, true_implies, false_implies, false_and, and_false, and_true, true_and, and_self, true_or, or_true, false_or, or_false, not_true_eq_false, not_false_eq_true, forall_const, implies_true, if_true, if_false, reduceCtorEq, reduceIte, Nat.reduceAdd, Nat.reduceMul, Nat.reduceSub, Nat.reduceDiv, Nat.reduceMod, Nat.reduceEqDiff, Nat.reduceLeDiff, Nat.reduceLT, Nat.zero_le, Nat.lt_add_one, Nat.le_refl, Nat.sub_zero, Nat.zero_lt_succ, ge_iff_le, ji_m2, ji_m1, ji_0, ji_1, ji_2, ji_3, ji_4, ji_5, ji_6, ji_7, ji_8, ji_10, ji_12, ji_29, ji_30, ji_31, ji_40, ji_60, ji_70, ji_80, ji_81, ji_360, ji_512, ji_972, ji_1000000, ji_2147483639, jl_m1, jl_0, jl_1, h10]
      refine k_isOwner (d := d + 6) ?_
      have hvd := vDo_4 (pp := nI q) (po := po) (e := ev7 4 x y 0 0 0 0) h6 rfl
      have hvd : vDo (nI q) po s (ev7 4 x y 0 0 0 0) = (if ¬ s.1 4 = -1 ∧ (0 ≤ x ∧ x ≤ 29) ∧ (1 ≤ y ∧ y ≤ 1000000) ∧ s.2.2.2 (na - 1) x.toNatClampNeg ≤ 1000000 - y then some (s.2.2.2 (na - 1) x.toNatClampNeg + y, (s.1, s.2.1, s.2.2.1, u2 s.2.2.2 (na - 1) x.toNatClampNeg (s.2.2.2 (na - 1) x.toNatClampNeg + y))) else none) := by rw [hca] at hvd; exact hvd
      by_cases hx : 0 ≤ x ∧ x ≤ 29
      · rw [if_pos hx]
        simp only [e30_24, e30_27, e30_28, o_iload, o_lload, o_aload, o_istore, o_lstore, o_astore, o_iinc, o_ipush, o_lpush, o_null, o_ibin, o_ineg, o_lbin, o_ldv, o_lneg, o_lcmp, o_i2l, o_l2i, o_dup, o_pop, o_dupx, o_dup2, o_ic, o_iz, o_nul, o_acmp, o_tsw, o_gI, o_gR, o_pI, o_pZ, o_pR, o_iald, o_bald, o_lald, o_aald, o_iast, o_bast, o_last, o_aast, o_alen, o_newa, o_new, o_mna, o_cast, o_calls, o_callv, o_calli, o_oinit, o_getC, o_refp, o_cpi, o_cpo, o_mmax, o_mmin, o_lmin, o_iret, o_zret, o_lret, o_aret, o_vret, jd_lo, jd_la, jd_nl, jd_pop, List.length_cons, List.length_nil, List.set_cons_zero, List.set_cons_succ, List.getElem?_cons_zero, List.getElem?_cons_succ, List.replicate_succ, List.replicate_zero, List.cons_append, List.nil_append, List.append_nil, Value.category, Option.toList, va_rf, true_implies, false_implies, false_and, and_false, and_true, true_and, and_self, true_or, or_true, false_or, or_false, not_true_eq_false, not_false_eq_true, forall_const, implies_true, if_true, if_false, reduceCtorEq, reduceIte, Nat.reduceAdd, Nat.reduceMul, Nat.reduceSub, Nat.reduceDiv, Nat.reduceMod, Nat.reduceEqDiff, Nat.reduceLeDiff, Nat.reduceLT, Nat.zero_le, Nat.lt_add_one, Nat.le_refl, Nat.sub_zero, Nat.zero_lt_succ, ge_iff_le, ji_m2, ji_m1, ji_0, ji_1, ji_2, ji_3, ji_4, ji_5, ji_6, ji_7, ji_8, ji_10, ji_12, ji_29, ji_30, ji_31, ji_40, ji_60, ji_70, ji_80, ji_81, ji_360, ji_512, ji_972, ji_1000000, ji_2147483639, jl_m1, jl_0, jl_1, h10]
        refine k_isAmount (d := d + 6) ?_
        by_cases hy : 1 ≤ y ∧ y ≤ 1000000
        · rw [if_pos hy]
          obtain ⟨j, hj, rfl⟩ := (jn_ix (n := 30) (by decide)).mp (show 0 ≤ x ∧ x ≤ nI 30 - 1 from hx)
          have hcl : (nI j).toNatClampNeg = j := jn_cl hj (by decide)
          rw [hcl] at hvd
          obtain ⟨o, cc⟩ := cA.2 (na - 1) ha1
          have r12 : zR h 133 (ad 6 (na - 1)) = some (ad 12 (na - 1)) := cAo_R o (k := 5) (by decide)
          have k12 : zK h (ad 12 (na - 1)) = 10 := (o.2 5 (by decide)).2.2.1
          have l12 : zL h (ad 12 (na - 1)) = 30 := (o.2 5 (by decide)).2.2.2
          have v12 := cc.2.1 j hj
          simp only [e30_31, e30_36, e30_37, e30_40, e30_41, e30_42, e30_43, e30_44, o_iload, o_lload, o_aload, o_istore, o_lstore, o_astore, o_iinc, o_ipush, o_lpush, o_null, o_ibin, o_ineg, o_lbin, o_ldv, o_lneg, o_lcmp, o_i2l, o_l2i, o_dup, o_pop, o_dupx, o_dup2, o_ic, o_iz, o_nul, o_acmp, o_tsw, o_gI, o_gR, o_pI, o_pZ, o_pR, o_iald, o_bald, o_lald, o_aald, o_iast, o_bast, o_last, o_aast, o_alen, o_newa, o_new, o_mna, o_cast, o_calls, o_callv, o_calli, o_oinit, o_getC, o_refp, o_cpi, o_cpo, o_mmax, o_mmin, o_lmin, o_iret, o_zret, o_lret, o_aret, o_vret, jd_lo, jd_la, jd_nl, jd_pop, List.length_cons, List.length_nil, List.set_cons_zero, List.set_cons_succ, List.getElem?_cons_zero, List.getElem?_cons_succ, List.replicate_succ, List.replicate_zero, List.cons_append, List.nil_append, List.append_nil, Value.category, Option.toList, va_rf, true_implies, false_implies, false_and, and_false, and_true, true_and, and_self, true_or, or_true, false_or, or_false, not_true_eq_false, not_false_eq_true, forall_const, implies_true, if_true, if_false, reduceCtorEq, reduceIte, Nat.reduceAdd, Nat.reduceMul, Nat.reduceSub, Nat.reduceDiv, Nat.reduceMod, Nat.reduceEqDiff, Nat.reduceLeDiff, Nat.reduceLT, Nat.zero_le, Nat.lt_add_one, Nat.le_refl, Nat.sub_zero, Nat.zero_lt_succ, ge_iff_le, ji_m2, ji_m1, ji_0, ji_1, ji_2, ji_3, ji_4, ji_5, ji_6, ji_7, ji_8, ji_10, ji_12, ji_29, ji_30, ji_31, ji_40, ji_60, ji_70, ji_80, ji_81, ji_360, ji_512, ji_972, ji_1000000, ji_2147483639, jl_m1, jl_0, jl_1, h10, o.1.1, r12, k12, l12, jn_in hj (by decide), jn_cl hj (by decide), v12]
          refine k_isAmount (d := d + 6) ?_
          obtain ⟨b1, b2⟩ := aSp_b hI hJ ha1 hj
          obtain ⟨y1, y2⟩ := nn_le (k := 1000000) (by decide) (Int32.le_trans (by decide) hy.1) hy.2
          have y0 : 1 ≤ nn y := by
            have := hy.1
            rw [y1, j1I] at this
            exact (nI_leI (by decide) (by omega)).mp this
          have heq : (1 ≤ s.2.2.2 (na - 1) j + y ∧ s.2.2.2 (na - 1) j + y ≤ 1000000) ↔ s.2.2.2 (na - 1) j ≤ 1000000 - y := by
            rw [b2, y1, nI_add, j1I, show (1000000 : Int32) = nI 1000000 from rfl, jn_sub (by omega), nI_leI (by decide) (by omega), nI_leI (by omega) (by decide), nI_leI (by omega) (by omega)]
            omega
          by_cases hsum : 1 ≤ s.2.2.2 (na - 1) j + y ∧ s.2.2.2 (na - 1) j + y ≤ 1000000
          · rw [if_pos hsum]
            rw [if_pos ⟨hop1, hx, hy, heq.mp hsum⟩] at hvd
            simp only [e30_47, e30_52, e30_53, e30_54, e30_55, o_iload, o_lload, o_aload, o_istore, o_lstore, o_astore, o_iinc, o_ipush, o_lpush, o_null, o_ibin, o_ineg, o_lbin, o_ldv, o_lneg, o_lcmp, o_i2l, o_l2i, o_dup, o_pop, o_dupx, o_dup2, o_ic, o_iz, o_nul, o_acmp, o_tsw, o_gI, o_gR, o_pI, o_pZ, o_pR, o_iald, o_bald, o_lald, o_aald, o_iast, o_bast, o_last, o_aast, o_alen, o_newa, o_new, o_mna, o_cast, o_calls, o_callv, o_calli, o_oinit, o_getC, o_refp, o_cpi, o_cpo, o_mmax, o_mmin, o_lmin, o_iret, o_zret, o_lret, o_aret, o_vret, jd_lo, jd_la, jd_nl, jd_pop, List.length_cons, List.length_nil, List.set_cons_zero, List.set_cons_succ, List.getElem?_cons_zero, List.getElem?_cons_succ, List.replicate_succ, List.replicate_zero, List.cons_append, List.nil_append, List.append_nil, Value.category, Option.toList, va_rf, true_implies, false_implies, false_and, and_false, and_true, true_and, and_self, true_or, or_true, false_or, or_false, not_true_eq_false, not_false_eq_true, forall_const, implies_true, if_true, if_false, reduceCtorEq, reduceIte, Nat.reduceAdd, Nat.reduceMul, Nat.reduceSub, Nat.reduceDiv, Nat.reduceMod, Nat.reduceEqDiff, Nat.reduceLeDiff, Nat.reduceLT, Nat.zero_le, Nat.lt_add_one, Nat.le_refl, Nat.sub_zero, Nat.zero_lt_succ, ge_iff_le, ji_m2, ji_m1, ji_0, ji_1, ji_2, ji_3, ji_4, ji_5, ji_6, ji_7, ji_8, ji_10, ji_12, ji_29, ji_30, ji_31, ji_40, ji_60, ji_70, ji_80, ji_81, ji_360, ji_512, ji_972, ji_1000000, ji_2147483639, jl_m1, jl_0, jl_1, h10, o.1.1]
            refine k_addX (d := d + 5) cA ha1 hna hj (fun h1 cA1 hG1 => ?_)
            have c01 := cV0_fr c0 hG1 (by unfold Tg; omega)
            have cI1 := cVI_fr cI hG1 (by unfold Tg; omega) (fun i hi => by unfold Tg; omega)
            have cE1 := cVE_fr cE hG1 (by unfold Tg; omega) (fun i hi => by unfold Tg; omega)
            have cS1 := cVS_fr cS hG1 (by unfold Tg; omega)
            have cJ1 := cVJ_fr cJ hG1 (by unfold Tg; omega)
            have hV1 : zI h1 457 (ad 0 0) = s.1 4 := c01.2.2.2.2.2.1
            simp only [e30_58, e30_59, e30_60, e30_61, e30_62, e30_63, o_iload, o_lload, o_aload, o_istore, o_lstore, o_astore, o_iinc, o_ipush, o_lpush, o_null, o_ibin, o_ineg, o_lbin, o_ldv, o_lneg, o_lcmp, o_i2l, o_l2i, o_dup, o_pop, o_dupx, o_dup2, o_ic, o_iz, o_nul, o_acmp, o_tsw, o_gI, o_gR, o_pI, o_pZ, o_pR, o_iald, o_bald, o_lald, o_aald, o_iast, o_bast, o_last, o_aast, o_alen, o_newa, o_new, o_mna, o_cast, o_calls, o_callv, o_calli, o_oinit, o_getC, o_refp, o_cpi, o_cpo, o_mmax, o_mmin, o_lmin, o_iret, o_zret, o_lret, o_aret, o_vret, jd_lo, jd_la, jd_nl, jd_pop, List.length_cons, List.length_nil, List.set_cons_zero, List.set_cons_succ, List.getElem?_cons_zero, List.getElem?_cons_succ, List.replicate_succ, List.replicate_zero, List.cons_append, List.nil_append, List.append_nil, Value.category, Option.toList, va_rf, true_implies, false_implies, false_and, and_false, and_true, true_and, and_self, true_or, or_true, false_or, or_false, not_true_eq_false, not_false_eq_true, forall_const, implies_true, if_true, if_false, reduceCtorEq, reduceIte, Nat.reduceAdd, Nat.reduceMul, Nat.reduceSub, Nat.reduceDiv, Nat.reduceMod, Nat.reduceEqDiff, Nat.reduceLeDiff, Nat.reduceLT, Nat.zero_le, Nat.lt_add_one, Nat.le_refl, Nat.sub_zero, Nat.zero_lt_succ, ge_iff_le, ji_m2, ji_m1, ji_0, ji_1, ji_2, ji_3, ji_4, ji_5, ji_6, ji_7, ji_8, ji_10, ji_12, ji_29, ji_30, ji_31, ji_40, ji_60, ji_70, ji_80, ji_81, ji_360, ji_512, ji_972, ji_1000000, ji_2147483639, jl_m1, jl_0, jl_1, c01.1.1]
            refine k_noteT (d := d) cE1 c01.1.1 c01.2.1.2.2.1 hl (fun h2 tg2 ad2 hd2 cE2 hG2 => ⟨fun _ => ?_, fun z => absurd (Or.inr rfl) z⟩)
            have d16 : ∀ k i, k ≠ 16 → ad2 k i = ad k i := fun k i hk => hd2 k i (fun z => hk z.1)
            have c02 := cV0_fr c01 hG2 (by unfold Tg; omega)
            have cI2 := cVI_fr cI1 hG2 (by unfold Tg; omega) (fun i hi => by unfold Tg; omega)
            have cA2 := cVA_fr cA1 hG2 (by unfold Tg; omega) (fun a k _ _ _ => by unfold Tg; omega)
            have cS2 := cVS_fr cS1 hG2 (by unfold Tg; omega)
            have cJ2 := cVJ_fr cJ1 hG2 (by unfold Tg; omega)
            obtain ⟨o2, cc2⟩ := cA2.2 (na - 1) ha1
            have q12 : zR h2 133 (ad 6 (na - 1)) = some (ad 12 (na - 1)) := cAo_R o2 (k := 5) (by decide)
            have p12 : zK h2 (ad 12 (na - 1)) = 10 := (o2.2 5 (by decide)).2.2.1
            have m12 : zL h2 (ad 12 (na - 1)) = 30 := (o2.2 5 (by decide)).2.2.2
            have w12 : zA h2 (ad 12 (na - 1)) j = s.2.2.2 (na - 1) j + y := (cc2.2.1 j hj).trans (if_pos ⟨rfl, rfl⟩)
            simp only [e30_66, e30_67, e30_70, e30_71, e30_72, o_iload, o_lload, o_aload, o_istore, o_lstore, o_astore, o_iinc, o_ipush, o_lpush, o_null, o_ibin, o_ineg, o_lbin, o_ldv, o_lneg, o_lcmp, o_i2l, o_l2i, o_dup, o_pop, o_dupx, o_dup2, o_ic, o_iz, o_nul, o_acmp, o_tsw, o_gI, o_gR, o_pI, o_pZ, o_pR, o_iald, o_bald, o_lald, o_aald, o_iast, o_bast, o_last, o_aast, o_alen, o_newa, o_new, o_mna, o_cast, o_calls, o_callv, o_calli, o_oinit, o_getC, o_refp, o_cpi, o_cpo, o_mmax, o_mmin, o_lmin, o_iret, o_zret, o_lret, o_aret, o_vret, jd_lo, jd_la, jd_nl, jd_pop, List.length_cons, List.length_nil, List.set_cons_zero, List.set_cons_succ, List.getElem?_cons_zero, List.getElem?_cons_succ, List.replicate_succ, List.replicate_zero, List.cons_append, List.nil_append, List.append_nil, Value.category, Option.toList, va_rf, true_implies, false_implies, false_and, and_false, and_true, true_and, and_self, true_or, or_true, false_or, or_false, not_true_eq_false, not_false_eq_true, forall_const, implies_true, if_true, if_false, reduceCtorEq, reduceIte, Nat.reduceAdd, Nat.reduceMul, Nat.reduceSub, Nat.reduceDiv, Nat.reduceMod, Nat.reduceEqDiff, Nat.reduceLeDiff, Nat.reduceLT, Nat.zero_le, Nat.lt_add_one, Nat.le_refl, Nat.sub_zero, Nat.zero_lt_succ, ge_iff_le, ji_m2, ji_m1, ji_0, ji_1, ji_2, ji_3, ji_4, ji_5, ji_6, ji_7, ji_8, ji_10, ji_12, ji_29, ji_30, ji_31, ji_40, ji_60, ji_70, ji_80, ji_81, ji_360, ji_512, ji_972, ji_1000000, ji_2147483639, jl_m1, jl_0, jl_1, o2.1.1, q12, p12, m12, jn_in hj (by decide), jn_cl hj (by decide), w12]
            have hz := (congrArg (fun z => vDo (nI q) po z (ev7 4 (nI j) y 0 0 0 0)) hs).trans hvd
            refine hQ1 _ _ h2 tg2 ad2 hvd (cVoy_mk hV hO hK ⟨4, by decide, rfl⟩ hz ?_ ?_ ?_ (cVE_cg cE2 (fun k hk => ?_)) ?_ (fun z => absurd z (show ¬ (4 : Int32) = 6 by decide)) (fun z => absurd h6 z)) (d16 0 0 (by decide)) cJ2 (AG_t (AG_w hG1 (fun u hu => by unfold PV Tg at hu; unfold Tg; omega)) (AG_w hG2 (fun u hu => by unfold PV Tg at hu; unfold Tg; omega)))
            · exact cV0_ad c02 (fun k hk => d16 k 0 (by omega))
            · have : cn (s.1, s.2.1, s.2.2.1, u2 s.2.2.2 (na - 1) j (s.2.2.2 (na - 1) j + y)) = n := hcn
              rw [this]
              exact cVI_ad cI2 (d16 1 0 (by decide)) (fun i _ => d16 3 i (by decide))
            · have : ca (s.1, s.2.1, s.2.2.1, u2 s.2.2.2 (na - 1) j (s.2.2.2 (na - 1) j + y)) = na := hca
              rw [this]
              exact cVA_ad cA2 (d16 4 0 (by decide)) (fun a k _ _ _ => d16 k a (by omega))
            · by_cases e : k = l.length
              · rw [if_pos e]
                funext c
                rw [if_pos e, hV1, hs]
                rfl
              · rw [if_neg e]
                funext c
                rw [if_neg e]
            · exact cVS_ad cS2 (fun k _ _ => d16 k 0 (by omega))
          · rw [if_neg hsum]
            rw [if_neg (fun z => hsum (heq.mpr z.2.2.2))] at hvd
            simp only [e30_47, e30_50, e30_51, o_iload, o_lload, o_aload, o_istore, o_lstore, o_astore, o_iinc, o_ipush, o_lpush, o_null, o_ibin, o_ineg, o_lbin, o_ldv, o_lneg, o_lcmp, o_i2l, o_l2i, o_dup, o_pop, o_dupx, o_dup2, o_ic, o_iz, o_nul, o_acmp, o_tsw, o_gI, o_gR, o_pI, o_pZ, o_pR, o_iald, o_bald, o_lald, o_aald, o_iast, o_bast, o_last, o_aast, o_alen, o_newa, o_new, o_mna, o_cast, o_calls, o_callv, o_calli, o_oinit, o_getC, o_refp, o_cpi, o_cpo, o_mmax, o_mmin, o_lmin, o_iret, o_zret, o_lret, o_aret, o_vret, jd_lo, jd_la, jd_nl, jd_pop, List.length_cons, List.length_nil, List.set_cons_zero, List.set_cons_succ, List.getElem?_cons_zero, List.getElem?_cons_succ, List.replicate_succ, List.replicate_zero, List.cons_append, List.nil_append, List.append_nil, Value.category, Option.toList, va_rf, true_implies, false_implies, false_and, and_false, and_true, true_and, and_self, true_or, or_true, false_or, or_false, not_true_eq_false, not_false_eq_true, forall_const, implies_true, if_true, if_false, reduceCtorEq, reduceIte, Nat.reduceAdd, Nat.reduceMul, Nat.reduceSub, Nat.reduceDiv, Nat.reduceMod, Nat.reduceEqDiff, Nat.reduceLeDiff, Nat.reduceLT, Nat.zero_le, Nat.lt_add_one, Nat.le_refl, Nat.sub_zero, Nat.zero_lt_succ, ge_iff_le, ji_m2, ji_m1, ji_0, ji_1, ji_2, ji_3, ji_4, ji_5, ji_6, ji_7, ji_8, ji_10, ji_12, ji_29, ji_30, ji_31, ji_40, ji_60, ji_70, ji_80, ji_81, ji_360, ji_512, ji_972, ji_1000000, ji_2147483639, jl_m1, jl_0, jl_1]
            exact hQ0 hvd
        · rw [if_neg hy]
          rw [if_neg (fun z => hy z.2.2.1)] at hvd
          simp only [e30_31, e30_34, e30_35, o_iload, o_lload, o_aload, o_istore, o_lstore, o_astore, o_iinc, o_ipush, o_lpush, o_null, o_ibin, o_ineg, o_lbin, o_ldv, o_lneg, o_lcmp, o_i2l, o_l2i, o_dup, o_pop, o_dupx, o_dup2, o_ic, o_iz, o_nul, o_acmp, o_tsw, o_gI, o_gR, o_pI, o_pZ, o_pR, o_iald, o_bald, o_lald, o_aald, o_iast, o_bast, o_last, o_aast, o_alen, o_newa, o_new, o_mna, o_cast, o_calls, o_callv, o_calli, o_oinit, o_getC, o_refp, o_cpi, o_cpo, o_mmax, o_mmin, o_lmin, o_iret, o_zret, o_lret, o_aret, o_vret, jd_lo, jd_la, jd_nl, jd_pop, List.length_cons, List.length_nil, List.set_cons_zero, List.set_cons_succ, List.getElem?_cons_zero, List.getElem?_cons_succ, List.replicate_succ, List.replicate_zero, List.cons_append, List.nil_append, List.append_nil, Value.category, Option.toList, va_rf, true_implies, false_implies, false_and, and_false, and_true, true_and, and_self, true_or, or_true, false_or, or_false, not_true_eq_false, not_false_eq_true, forall_const, implies_true, if_true, if_false, reduceCtorEq, reduceIte, Nat.reduceAdd, Nat.reduceMul, Nat.reduceSub, Nat.reduceDiv, Nat.reduceMod, Nat.reduceEqDiff, Nat.reduceLeDiff, Nat.reduceLT, Nat.zero_le, Nat.lt_add_one, Nat.le_refl, Nat.sub_zero, Nat.zero_lt_succ, ge_iff_le, ji_m2, ji_m1, ji_0, ji_1, ji_2, ji_3, ji_4, ji_5, ji_6, ji_7, ji_8, ji_10, ji_12, ji_29, ji_30, ji_31, ji_40, ji_60, ji_70, ji_80, ji_81, ji_360, ji_512, ji_972, ji_1000000, ji_2147483639, jl_m1, jl_0, jl_1]
          exact hQ0 hvd
      · rw [if_neg hx]
        rw [if_neg (fun z => hx z.2.1)] at hvd
        simp only [e30_24, e30_34, e30_35, o_iload, o_lload, o_aload, o_istore, o_lstore, o_astore, o_iinc, o_ipush, o_lpush, o_null, o_ibin, o_ineg, o_lbin, o_ldv, o_lneg, o_lcmp, o_i2l, o_l2i, o_dup, o_pop, o_dupx, o_dup2, o_ic, o_iz, o_nul, o_acmp, o_tsw, o_gI, o_gR, o_pI, o_pZ, o_pR, o_iald, o_bald, o_lald, o_aald, o_iast, o_bast, o_last, o_aast, o_alen, o_newa, o_new, o_mna, o_cast, o_calls, o_callv, o_calli, o_oinit, o_getC, o_refp, o_cpi, o_cpo, o_mmax, o_mmin, o_lmin, o_iret, o_zret, o_lret, o_aret, o_vret, jd_lo, jd_la, jd_nl, jd_pop, List.length_cons, List.length_nil, List.set_cons_zero, List.set_cons_succ, List.getElem?_cons_zero, List.getElem?_cons_succ, List.replicate_succ, List.replicate_zero, List.cons_append, List.nil_append, List.append_nil, Value.category, Option.toList, va_rf, true_implies, false_implies, false_and, and_false, and_true, true_and, and_self, true_or, or_true, false_or, or_false, not_true_eq_false, not_false_eq_true, forall_const, implies_true, if_true, if_false, reduceCtorEq, reduceIte, Nat.reduceAdd, Nat.reduceMul, Nat.reduceSub, Nat.reduceDiv, Nat.reduceMod, Nat.reduceEqDiff, Nat.reduceLeDiff, Nat.reduceLT, Nat.zero_le, Nat.lt_add_one, Nat.le_refl, Nat.sub_zero, Nat.zero_lt_succ, ge_iff_le, ji_m2, ji_m1, ji_0, ji_1, ji_2, ji_3, ji_4, ji_5, ji_6, ji_7, ji_8, ji_10, ji_12, ji_29, ji_30, ji_31, ji_40, ji_60, ji_70, ji_80, ji_81, ji_360, ji_512, ji_972, ji_1000000, ji_2147483639, jl_m1, jl_0, jl_1]
        exact hQ0 hvd
    · rw [if_neg h6]
      simp only [e30_17, e30_34, e30_35, o_iload, o_lload, o_aload, o_istore, o_lstore, o_astore, o_iinc, o_ipush, o_lpush, o_null, o_ibin, o_ineg, o_lbin, o_ldv, o_lneg, o_lcmp, o_i2l, o_l2i, o_dup, o_pop, o_dupx, o_dup2, o_ic, o_iz, o_nul, o_acmp, o_tsw, o_gI, o_gR, o_pI, o_pZ, o_pR, o_iald, o_bald, o_lald, o_aald, o_iast, o_bast, o_last, o_aast, o_alen, o_newa, o_new, o_mna, o_cast, o_calls, o_callv, o_calli, o_oinit, o_getC, o_refp, o_cpi, o_cpo, o_mmax, o_mmin, o_lmin, o_iret, o_zret, o_lret, o_aret, o_vret, jd_lo, jd_la, jd_nl, jd_pop, List.length_cons, List.length_nil, List.set_cons_zero, List.set_cons_succ, List.getElem?_cons_zero, List.getElem?_cons_succ, List.replicate_succ, List.replicate_zero, List.cons_append, List.nil_append, List.append_nil, Value.category, Option.toList, va_rf, true_implies, false_implies, false_and, and_false, and_true, true_and, and_self, true_or, or_true, false_or, or_false, not_true_eq_false, not_false_eq_true, forall_const, implies_true, if_true, if_false, reduceCtorEq, reduceIte, Nat.reduceAdd, Nat.reduceMul, Nat.reduceSub, Nat.reduceDiv, Nat.reduceMod, Nat.reduceEqDiff, Nat.reduceLeDiff, Nat.reduceLT, Nat.zero_le, Nat.lt_add_one, Nat.le_refl, Nat.sub_zero, Nat.zero_lt_succ, ge_iff_le, ji_m2, ji_m1, ji_0, ji_1, ji_2, ji_3, ji_4, ji_5, ji_6, ji_7, ji_8, ji_10, ji_12, ji_29, ji_30, ji_31, ji_40, ji_60, ji_70, ji_80, ji_81, ji_360, ji_512, ji_972, ji_1000000, ji_2147483639, jl_m1, jl_0, jl_1]
      exact hQ0 (vDo_E h6)
  · have hop : s.1 4 = -1 := by
      rcases hI.2.2.2.2.1 with z | ⟨z1, z2⟩
      · exact z
      · exact absurd z2 (hno (na - 1) (by omega))
    simp only [e30_8, e30_9, e30_10, e30_34, e30_35, o_iload, o_lload, o_aload, o_istore, o_lstore, o_astore, o_iinc, o_ipush, o_lpush, o_null, o_ibin, o_ineg, o_lbin, o_ldv, o_lneg, o_lcmp, o_i2l, o_l2i, o_dup, o_pop, o_dupx, o_dup2, o_ic, o_iz, o_nul, o_acmp, o_tsw, o_gI, o_gR, o_pI, o_pZ, o_pR, o_iald, o_bald, o_lald, o_aald, o_iast, o_bast, o_last, o_aast, o_alen, o_newa, o_new, o_mna, o_cast, o_calls, o_callv, o_calli, o_oinit, o_getC, o_refp, o_cpi, o_cpo, o_mmax, o_mmin, o_lmin, o_iret, o_zret, o_lret, o_aret, o_vret, jd_lo, jd_la, jd_nl, jd_pop, List.length_cons, List.length_nil, List.set_cons_zero, List.set_cons_succ, List.getElem?_cons_zero, List.getElem?_cons_succ, List.replicate_succ, List.replicate_zero, List.cons_append, List.nil_append, List.append_nil, Value.category, Option.toList, va_rf, true_implies, false_implies, false_and, and_false, and_true, true_and, and_self, true_or, or_true, false_or, or_false, not_true_eq_false, not_false_eq_true, forall_const, implies_true, if_true, if_false, reduceCtorEq, reduceIte, Nat.reduceAdd, Nat.reduceMul, Nat.reduceSub, Nat.reduceDiv, Nat.reduceMod, Nat.reduceEqDiff, Nat.reduceLeDiff, Nat.reduceLT, Nat.zero_le, Nat.lt_add_one, Nat.le_refl, Nat.sub_zero, Nat.zero_lt_succ, ge_iff_le, ji_m2, ji_m1, ji_0, ji_1, ji_2, ji_3, ji_4, ji_5, ji_6, ji_7, ji_8, ji_10, ji_12, ji_29, ji_30, ji_31, ji_40, ji_60, ji_70, ji_80, ji_81, ji_360, ji_512, ji_972, ji_1000000, ji_2147483639, jl_m1, jl_0, jl_1]
    refine hQ0 ?_
    by_cases h6 : s.1 6 = 0
    · rw [vDo_4 h6 rfl, if_neg (fun z => z.1 hop)]
    · exact vDo_E h6
end
