/-! the class: adjustIfEnded, hasWithout -/
/-- only what interests have in the end is written -/
def HF (ad : Nat → Nat → Nat) (n : Nat) (h h' : jd_H) : Prop := zK h' = zK h ∧ zR h' = zR h ∧ zL h' = zL h ∧ zA h' = zA h ∧ zJ h' = zJ h ∧ zO h' = zO h ∧ ∀ f b, ¬ (f = 328 ∧ ∃ i, i < n ∧ b = ad 3 i) → zI h' f b = zI h f b
section
variable {g d : Nat} {h h1 : jd_H} {Q : jd_Q} {tg t1 aj : Nat → Nat} {ad : Nat → Nat → Nat} {v n lo na p q a V : Nat} {pp po ou : Int32} {s : VS} {H : Nat → Nat} {f : Nat → Nat → Int32}
theorem HF_PE (x : HF ad n h h1) (c : cVI h tg ad v n f) (hn : n ≤ 81) : AG (PE v) h h1 tg tg := fun b hb => by
  refine ⟨by rw [x.1], by rw [x.2.2.1], rfl, fun hp => ⟨fun f => x.2.2.2.2.2.2 f b (fun z => ?_), fun f => by rw [x.2.1], by rw [x.2.2.2.1], by rw [x.2.2.2.2.1], by rw [x.2.2.2.2.2.1]⟩⟩
  obtain ⟨-, i, hi, z⟩ := z
  rw [z, (c.2 i hi).1.2] at hp
  unfold PE Tg at hp
  omega
theorem HF_I (x : HF ad n h h1) (c : cVI h tg ad v n f) : cVI h1 tg ad v n f := by
  refine ⟨?_, fun i hi => ?_⟩
  · obtain ⟨e, ⟨k1, k2, k3, k4, k5⟩, k6, k7, k8⟩ := c.1
    refine ⟨e, ⟨by rw [x.1]; exact k1, ?_, by rw [x.2.1]; exact k3, by rw [x.1, x.2.2.1]; exact k4, by rw [x.2.2.1]; exact k5⟩, by rw [x.1]; exact k6, k7, by rw [x.2.2.2.2.2.1]; exact k8⟩
    rw [x.2.2.2.2.2.2 66 _ (fun z => absurd z.1 (by decide))]; exact k2
  · have w : ∀ f, f ≠ 328 → zI h1 f (ad 3 i) = zI h f (ad 3 i) := fun f hf => x.2.2.2.2.2.2 f _ (fun z => hf z.1)
    have := c.2 i hi
    unfold cIn at this ⊢
    rw [x.1, w 320 (by decide), w 321 (by decide), w 322 (by decide), w 323 (by decide), w 324 (by decide), w 325 (by decide), w 326 (by decide)]
    exact this
set_option maxRecDepth 100000 in
theorem l_has (kV : zK h V = 7) (r448 : zR h 448 V = some (ad 1 0)) (r454 : zR h 454 V = some (aj 0)) (cJ : cVJ h tg aj) (cI : cVI h tg ad v n f) (hn : n ≤ 81) (hH : ∀ i, i < n → zA h (aj 1) i = nI (H i))
    (hex : ∀ h2 x, HF ad n h h2 → (∀ i, i < n → zI h2 328 (ad 3 i) = nI (H i)) → jd_w g (d + 3) 41 Q 133 [some (.ref V), some (.int x)] [] h2 0 0) :
    ∀ (r i0 : Nat) (h2 : jd_H), i0 + r = n → HF ad n h h2 → (∀ i, i < i0 → zI h2 328 (ad 3 i) = nI (H i)) → jd_w g (d + 3) 41 Q 83 [some (.ref V), some (.int (nI i0))] [] h2 0 0 := by
  intro r
  induction r with
  | zero =>
    intro i0 h2 hi hF hA
    have hin : i0 = n := by omega
    subst hin
    have c2 := HF_I hF cI
    have kV2 : zK h2 V = 7 := by rw [hF.1]; exact kV
    have q448 : zR h2 448 V = some (ad 1 0) := by rw [hF.2.1]; exact r448
    rw [e41_83]
    simp only [e41_84, e41_85, e41_88, o_iload, o_lload, o_aload, o_istore, o_lstore, o_astore, o_iinc, o_ipush, o_lpush, o_null, o_ibin, o_ineg, o_lbin, o_ldv, o_lneg, o_lcmp, o_i2l, o_l2i, o_dup, o_pop, o_dupx, o_dup2, o_ic, o_iz, o_nul, o_acmp, o_tsw, o_gI, o_gR, o_pI, o_pZ, o_pR, o_iald, o_bald, o_lald, o_aald, o_iast, o_bast, o_last, o_aast, o_alen, o_newa, o_new, o_mna, o_cast, o_calls, o_callv, o_calli, o_oinit, o_getC, o_refp, o_cpi, o_cpo, o_mmax, o_mmin, o_lmin, o_iret, o_zret, o_lret, o_aret, o_vret, jd_lo, jd_la, jd_nl, jd_pop, List.length_cons, List.length_nil, List.set_cons_zero, List.set_cons_succ, List.getElem?_cons_zero, List.getElem?_cons_succ, List.replicate_succ, List.replicate_zero, List.cons_append, List.nil_append, List.append_nil, Value.category, Option.toList, va_rf, true_implies, false_implies, false_and, and_false, and_true, true_and, and_self, true_or, or_true, false_or, or_false, not_true_eq_false, not_false_eq_true, forall_const, implies_true, if_true, if_false, reduceCtorEq, reduceIte, Nat.reduceAdd, Nat.reduceMul, Nat.reduceSub, Nat.reduceDiv, Nat.reduceMod, Nat.reduceEqDiff, Nat.reduceLeDiff, Nat.reduceLT, Nat.zero_le, Nat.lt_add_one, Nat.le_refl, Nat.sub_zero, Nat.zero_lt_succ, ge_iff_le, ji_m2, ji_m1, ji_0, ji_1, ji_2, ji_3, ji_4, ji_5, ji_6, ji_7, ji_8, ji_10, ji_12, ji_29, ji_30, ji_31, ji_40, ji_60, ji_70, ji_80, ji_81, ji_360, ji_512, ji_972, ji_1000000, ji_2147483639, jl_m1, jl_0, jl_1, kV2, q448, vLS_K c2.1]
    refine k_lsize (d := d + 2) c2.1 ?_
    simp only [e41_93, o_iload, o_lload, o_aload, o_istore, o_lstore, o_astore, o_iinc, o_ipush, o_lpush, o_null, o_ibin, o_ineg, o_lbin, o_ldv, o_lneg, o_lcmp, o_i2l, o_l2i, o_dup, o_pop, o_dupx, o_dup2, o_ic, o_iz, o_nul, o_acmp, o_tsw, o_gI, o_gR, o_pI, o_pZ, o_pR, o_iald, o_bald, o_lald, o_aald, o_iast, o_bast, o_last, o_aast, o_alen, o_newa, o_new, o_mna, o_cast, o_calls, o_callv, o_calli, o_oinit, o_getC, o_refp, o_cpi, o_cpo, o_mmax, o_mmin, o_lmin, o_iret, o_zret, o_lret, o_aret, o_vret, jd_lo, jd_la, jd_nl, jd_pop, List.length_cons, List.length_nil, List.set_cons_zero, List.set_cons_succ, List.getElem?_cons_zero, List.getElem?_cons_succ, List.replicate_succ, List.replicate_zero, List.cons_append, List.nil_append, List.append_nil, Value.category, Option.toList, va_rf, true_implies, false_implies, false_and, and_false, and_true, true_and, and_self, true_or, or_true, false_or, or_false, not_true_eq_false, not_false_eq_true, forall_const, implies_true, if_true, if_false, reduceCtorEq, reduceIte, Nat.reduceAdd, Nat.reduceMul, Nat.reduceSub, Nat.reduceDiv, Nat.reduceMod, Nat.reduceEqDiff, Nat.reduceLeDiff, Nat.reduceLT, Nat.zero_le, Nat.lt_add_one, Nat.le_refl, Nat.sub_zero, Nat.zero_lt_succ, ge_iff_le, ji_m2, ji_m1, ji_0, ji_1, ji_2, ji_3, ji_4, ji_5, ji_6, ji_7, ji_8, ji_10, ji_12, ji_29, ji_30, ji_31, ji_40, ji_60, ji_70, ji_80, ji_81, ji_360, ji_512, ji_972, ji_1000000, ji_2147483639, jl_m1, jl_0, jl_1]
    exact ⟨fun _ => hex h2 _ hF hA, fun w => absurd (Int32.le_refl _) w⟩
  | succ r ih =>
    intro i0 h2 hi hF hA
    have c2 := HF_I hF cI
    have hin : i0 < n := by omega
    have hi81 : i0 < 81 := by omega
    have hnle : ¬ nI n ≤ nI i0 := nI_ge hin (by omega)
    have hnle2 : ¬ nI 81 ≤ nI i0 := nI_ge hi81 (by omega)
    have kV2 : zK h2 V = 7 := by rw [hF.1]; exact kV
    have q448 : zR h2 448 V = some (ad 1 0) := by rw [hF.2.1]; exact r448
    have q454 : zR h2 454 V = some (aj 0) := by rw [hF.2.1]; exact r454
    have kJ : zK h2 (aj 0) = 3 := by rw [hF.1]; exact cJ.1.1
    have rJ : zR h2 192 (aj 0) = some (aj 1) := by rw [hF.2.1]; exact cJ.2.1.1
    have k1 : zK h2 (aj 1) = 10 := by rw [hF.1]; exact cJ.2.2.1.1
    have l1 : zL h2 (aj 1) = 81 := by rw [hF.2.2.1]; exact (cJ.2.2.2 1 (by decide) (by decide)).1
    have vH : zA h2 (aj 1) i0 = nI (H i0) := by rw [hF.2.2.2.1]; exact hH i0 hin
    have k5 := (c2.2 i0 hin).1.1
    rw [e41_83]
    simp only [e41_84, e41_85, e41_88, o_iload, o_lload, o_aload, o_istore, o_lstore, o_astore, o_iinc, o_ipush, o_lpush, o_null, o_ibin, o_ineg, o_lbin, o_ldv, o_lneg, o_lcmp, o_i2l, o_l2i, o_dup, o_pop, o_dupx, o_dup2, o_ic, o_iz, o_nul, o_acmp, o_tsw, o_gI, o_gR, o_pI, o_pZ, o_pR, o_iald, o_bald, o_lald, o_aald, o_iast, o_bast, o_last, o_aast, o_alen, o_newa, o_new, o_mna, o_cast, o_calls, o_callv, o_calli, o_oinit, o_getC, o_refp, o_cpi, o_cpo, o_mmax, o_mmin, o_lmin, o_iret, o_zret, o_lret, o_aret, o_vret, jd_lo, jd_la, jd_nl, jd_pop, List.length_cons, List.length_nil, List.set_cons_zero, List.set_cons_succ, List.getElem?_cons_zero, List.getElem?_cons_succ, List.replicate_succ, List.replicate_zero, List.cons_append, List.nil_append, List.append_nil, Value.category, Option.toList, va_rf, true_implies, false_implies, false_and, and_false, and_true, true_and, and_self, true_or, or_true, false_or, or_false, not_true_eq_false, not_false_eq_true, forall_const, implies_true, if_true, if_false, reduceCtorEq, reduceIte, Nat.reduceAdd, Nat.reduceMul, Nat.reduceSub, Nat.reduceDiv, Nat.reduceMod, Nat.reduceEqDiff, Nat.reduceLeDiff, Nat.reduceLT, Nat.zero_le, Nat.lt_add_one, Nat.le_refl, Nat.sub_zero, Nat.zero_lt_succ, ge_iff_le, ji_m2, ji_m1, ji_0, ji_1, ji_2, ji_3, ji_4, ji_5, ji_6, ji_7, ji_8, ji_10, ji_12, ji_29, ji_30, ji_31, ji_40, ji_60, ji_70, ji_80, ji_81, ji_360, ji_512, ji_972, ji_1000000, ji_2147483639, jl_m1, jl_0, jl_1, kV2, q448, vLS_K c2.1]
    refine k_lsize (d := d + 2) c2.1 ?_
    simp only [e41_93, e41_96, e41_97, e41_99, e41_102, e41_103, e41_106, e41_107, o_iload, o_lload, o_aload, o_istore, o_lstore, o_astore, o_iinc, o_ipush, o_lpush, o_null, o_ibin, o_ineg, o_lbin, o_ldv, o_lneg, o_lcmp, o_i2l, o_l2i, o_dup, o_pop, o_dupx, o_dup2, o_ic, o_iz, o_nul, o_acmp, o_tsw, o_gI, o_gR, o_pI, o_pZ, o_pR, o_iald, o_bald, o_lald, o_aald, o_iast, o_bast, o_last, o_aast, o_alen, o_newa, o_new, o_mna, o_cast, o_calls, o_callv, o_calli, o_oinit, o_getC, o_refp, o_cpi, o_cpo, o_mmax, o_mmin, o_lmin, o_iret, o_zret, o_lret, o_aret, o_vret, jd_lo, jd_la, jd_nl, jd_pop, List.length_cons, List.length_nil, List.set_cons_zero, List.set_cons_succ, List.getElem?_cons_zero, List.getElem?_cons_succ, List.replicate_succ, List.replicate_zero, List.cons_append, List.nil_append, List.append_nil, Value.category, Option.toList, va_rf, true_implies, false_implies, false_and, and_false, and_true, true_and, and_self, true_or, or_true, false_or, or_false, not_true_eq_false, not_false_eq_true, forall_const, implies_true, if_true, if_false, reduceCtorEq, reduceIte, Nat.reduceAdd, Nat.reduceMul, Nat.reduceSub, Nat.reduceDiv, Nat.reduceMod, Nat.reduceEqDiff, Nat.reduceLeDiff, Nat.reduceLT, Nat.zero_le, Nat.lt_add_one, Nat.le_refl, Nat.sub_zero, Nat.zero_lt_succ, ge_iff_le, ji_m2, ji_m1, ji_0, ji_1, ji_2, ji_3, ji_4, ji_5, ji_6, ji_7, ji_8, ji_10, ji_12, ji_29, ji_30, ji_31, ji_40, ji_60, ji_70, ji_80, ji_81, ji_360, ji_512, ji_972, ji_1000000, ji_2147483639, jl_m1, jl_0, jl_1, j81, hnle, hnle2, kV2, q448, vLS_K c2.1]
    refine k_lget (d := d) c2.1 hin ?_
    simp only [e41_112, e41_115, e41_116, e41_119, e41_122, e41_123, e41_124, e41_127, e41_130, o_iload, o_lload, o_aload, o_istore, o_lstore, o_astore, o_iinc, o_ipush, o_lpush, o_null, o_ibin, o_ineg, o_lbin, o_ldv, o_lneg, o_lcmp, o_i2l, o_l2i, o_dup, o_pop, o_dupx, o_dup2, o_ic, o_iz, o_nul, o_acmp, o_tsw, o_gI, o_gR, o_pI, o_pZ, o_pR, o_iald, o_bald, o_lald, o_aald, o_iast, o_bast, o_last, o_aast, o_alen, o_newa, o_new, o_mna, o_cast, o_calls, o_callv, o_calli, o_oinit, o_getC, o_refp, o_cpi, o_cpo, o_mmax, o_mmin, o_lmin, o_iret, o_zret, o_lret, o_aret, o_vret, jd_lo, jd_la, jd_nl, jd_pop, List.length_cons, List.length_nil, List.set_cons_zero, List.set_cons_succ, List.getElem?_cons_zero, List.getElem?_cons_succ, List.replicate_succ, List.replicate_zero, List.cons_append, List.nil_append, List.append_nil, Value.category, Option.toList, va_rf, true_implies, false_implies, false_and, and_false, and_true, true_and, and_self, true_or, or_true, false_or, or_false, not_true_eq_false, not_false_eq_true, forall_const, implies_true, if_true, if_false, reduceCtorEq, reduceIte, Nat.reduceAdd, Nat.reduceMul, Nat.reduceSub, Nat.reduceDiv, Nat.reduceMod, Nat.reduceEqDiff, Nat.reduceLeDiff, Nat.reduceLT, Nat.zero_le, Nat.lt_add_one, Nat.le_refl, Nat.sub_zero, Nat.zero_lt_succ, ge_iff_le, ji_m2, ji_m1, ji_0, ji_1, ji_2, ji_3, ji_4, ji_5, ji_6, ji_7, ji_8, ji_10, ji_12, ji_29, ji_30, ji_31, ji_40, ji_60, ji_70, ji_80, ji_81, ji_360, ji_512, ji_972, ji_1000000, ji_2147483639, jl_m1, jl_0, jl_1, k5, kV2, q454, kJ, rJ, k1, l1, vH, jn_in hi81 (by decide), jn_cl hi81 (by decide), jn_sc]
    refine ih (i0 + 1) _ (by omega) ⟨hF.1, hF.2.1, hF.2.2.1, hF.2.2.2.1, hF.2.2.2.2.1, hF.2.2.2.2.2.1, fun f b hb => ?_⟩ (fun i hi => ?_)
    · rw [rw_II, if_neg (fun z => hb ⟨z.1, i0, hin, z.2⟩)]; exact hF.2.2.2.2.2.2 f b hb
    · rw [rw_II]
      by_cases e : i = i0
      · subst e; rw [if_pos ⟨rfl, rfl⟩]
      · rw [if_neg (fun z => ?_)]
        · exact hA i (by omega)
        · have t1 := (cI.2 i (by omega)).1.2
          rw [z.2, (cI.2 i0 hin).1.2] at t1
          unfold Tg at t1
          omega
theorem ended_val (hI : IV pp s n lo na p) (hJ : JV q s n na p) : (if vWr q s = 0 ∧ s.1 0 < nI q - 1 then (0 : Int32) else 1) = s.1 6 := by
  have hp := hI.2.2.2.1
  obtain ⟨hq1, hq2, -⟩ := hJ
  have eq1 : nI q - 1 = nI (q - 1) := by rw [j1I, jn_sub (by omega)]
  by_cases h6 : s.1 6 = 0
  · have := hq2 h6
    have hlt : s.1 0 < nI q - 1 := by
      rw [hp.1, eq1]
      exact nI_lt (by omega) (by omega)
    rw [if_pos ⟨if_pos (Or.inl h6), hlt⟩, h6]
  · have h61 := jbit hI.2.2.2.2.2.2.1 h6
    rw [h61]
    refine if_neg (fun z => ?_)
    unfold vWr at z
    by_cases h0 : s.1 0 = nI (q - 1)
    · have z2 := z.2
      rw [h0, eq1] at z2
      exact absurd z2 (Int32.not_lt.mpr (Int32.le_refl _))
    · rw [if_neg (fun w => w.elim h6 h0)] at z
      exact absurd z.1 (by decide)
set_option maxRecDepth 100000 in
theorem k_adjEnd {fv : Nat → Int32} (hI : IV pp s n lo na p) (hJ : JV q s n na p) (c0 : cV0 h tg ad aj v po q fv) (hf0 : fv 0 = s.1 0) (hf3 : fv 3 = vWr q s) (cI : cVI h tg ad v n s.2.1) (cA : cVA h tg ad v na s.2.2.1 s.2.2.2) (cS : cVS h tg ad v) (cJ : cVJ h tg aj)
    (hQ0 : s.1 6 = 0 → Q none h)
    (hQ1 : ∀ h', ¬ s.1 6 = 0 → cVR h' ad n na s → cV0 h' tg ad aj v po q fv → cVI h' tg ad v n s.2.1 → cVA h' tg ad v na s.2.2.1 s.2.2.2 → cVS h' tg ad v → cVJ h' tg aj → AG (PE v) h h' tg tg → (∀ i, i < n → zI h' 327 (ad 3 i) = zI h 327 (ad 3 i)) → Q none h') :
    jd_WM g (d + 6) 41 [.ref (ad 0 0)] h Q := by
  refine ⟨Nat.le_of_ble_eq_true rfl, ?_⟩; show jd_w g (d + 5) 41 Q 0 [some (.ref (ad 0 0)), none] [] h 0 0
  have hn81 := IV_81 hI
  have hna := hI.2.2.1.2
  obtain ⟨⟨kV, tV⟩, ⟨r448, r449, r450, r451, r454⟩, ⟨i452, i453⟩, i455, i456, i457, i458, i459⟩ := id c0
  simp only [e41_0, e41_1, o_iload, o_lload, o_aload, o_istore, o_lstore, o_astore, o_iinc, o_ipush, o_lpush, o_null, o_ibin, o_ineg, o_lbin, o_ldv, o_lneg, o_lcmp, o_i2l, o_l2i, o_dup, o_pop, o_dupx, o_dup2, o_ic, o_iz, o_nul, o_acmp, o_tsw, o_gI, o_gR, o_pI, o_pZ, o_pR, o_iald, o_bald, o_lald, o_aald, o_iast, o_bast, o_last, o_aast, o_alen, o_newa, o_new, o_mna, o_cast, o_calls, o_callv, o_calli, o_oinit, o_getC, o_refp, o_cpi, o_cpo, o_mmax, o_mmin, o_lmin, o_iret, o_zret, o_lret, o_aret, o_vret, jd_lo, jd_la, jd_nl, jd_pop, List.length_cons, List.length_nil, List.set_cons_zero, List.set_cons_succ, List.getElem?_cons_zero, List.getElem?_cons_succ, List.replicate_succ, List.replicate_zero, List.cons_append, List.nil_append, List.append_nil, Value.category, Option.toList, va_rf, true_implies, false_implies, false_and, and_false, and_true, true_and, and_self, true_or, or_true, false_or, or_false, not_true_eq_false, not_false_eq_true, forall_const, implies_true, if_true, if_false, reduceCtorEq, reduceIte, Nat.reduceAdd, Nat.reduceMul, Nat.reduceSub, Nat.reduceDiv, Nat.reduceMod, Nat.reduceEqDiff, Nat.reduceLeDiff, Nat.reduceLT, Nat.zero_le, Nat.lt_add_one, Nat.le_refl, Nat.sub_zero, Nat.zero_lt_succ, ge_iff_le, ji_m2, ji_m1, ji_0, ji_1, ji_2, ji_3, ji_4, ji_5, ji_6, ji_7, ji_8, ji_10, ji_12, ji_29, ji_30, ji_31, ji_40, ji_60, ji_70, ji_80, ji_81, ji_360, ji_512, ji_972, ji_1000000, ji_2147483639, jl_m1, jl_0, jl_1, kV]
  refine k_ended (d := d + 4) kV ?_
  rw [i458, i455, i453, hf0, hf3, ended_val hI hJ]
  by_cases h6 : s.1 6 = 0
  · rw [h6]
    simp only [e41_4, e41_7, o_iload, o_lload, o_aload, o_istore, o_lstore, o_astore, o_iinc, o_ipush, o_lpush, o_null, o_ibin, o_ineg, o_lbin, o_ldv, o_lneg, o_lcmp, o_i2l, o_l2i, o_dup, o_pop, o_dupx, o_dup2, o_ic, o_iz, o_nul, o_acmp, o_tsw, o_gI, o_gR, o_pI, o_pZ, o_pR, o_iald, o_bald, o_lald, o_aald, o_iast, o_bast, o_last, o_aast, o_alen, o_newa, o_new, o_mna, o_cast, o_calls, o_callv, o_calli, o_oinit, o_getC, o_refp, o_cpi, o_cpo, o_mmax, o_mmin, o_lmin, o_iret, o_zret, o_lret, o_aret, o_vret, jd_lo, jd_la, jd_nl, jd_pop, List.length_cons, List.length_nil, List.set_cons_zero, List.set_cons_succ, List.getElem?_cons_zero, List.getElem?_cons_succ, List.replicate_succ, List.replicate_zero, List.cons_append, List.nil_append, List.append_nil, Value.category, Option.toList, va_rf, true_implies, false_implies, false_and, and_false, and_true, true_and, and_self, true_or, or_true, false_or, or_false, not_true_eq_false, not_false_eq_true, forall_const, implies_true, if_true, if_false, reduceCtorEq, reduceIte, Nat.reduceAdd, Nat.reduceMul, Nat.reduceSub, Nat.reduceDiv, Nat.reduceMod, Nat.reduceEqDiff, Nat.reduceLeDiff, Nat.reduceLT, Nat.zero_le, Nat.lt_add_one, Nat.le_refl, Nat.sub_zero, Nat.zero_lt_succ, ge_iff_le, ji_m2, ji_m1, ji_0, ji_1, ji_2, ji_3, ji_4, ji_5, ji_6, ji_7, ji_8, ji_10, ji_12, ji_29, ji_30, ji_31, ji_40, ji_60, ji_70, ji_80, ji_81, ji_360, ji_512, ji_972, ji_1000000, ji_2147483639, jl_m1, jl_0, jl_1]
    exact hQ0 h6
  have h10 : ¬ (1 : Int32) = 0 := by decide
  rw [jbit hI.2.2.2.2.2.2.1 h6]
  simp only [e41_4, e41_8, e41_9, e41_12, e41_13, e41_16, o_iload, o_lload, o_aload, o_istore, o_lstore, o_astore, o_iinc, o_ipush, o_lpush, o_null, o_ibin, o_ineg, o_lbin, o_ldv, o_lneg, o_lcmp, o_i2l, o_l2i, o_dup, o_pop, o_dupx, o_dup2, o_ic, o_iz, o_nul, o_acmp, o_tsw, o_gI, o_gR, o_pI, o_pZ, o_pR, o_iald, o_bald, o_lald, o_aald, o_iast, o_bast, o_last, o_aast, o_alen, o_newa, o_new, o_mna, o_cast, o_calls, o_callv, o_calli, o_oinit, o_getC, o_refp, o_cpi, o_cpo, o_mmax, o_mmin, o_lmin, o_iret, o_zret, o_lret, o_aret, o_vret, jd_lo, jd_la, jd_nl, jd_pop, List.length_cons, List.length_nil, List.set_cons_zero, List.set_cons_succ, List.getElem?_cons_zero, List.getElem?_cons_succ, List.replicate_succ, List.replicate_zero, List.cons_append, List.nil_append, List.append_nil, Value.category, Option.toList, va_rf, true_implies, false_implies, false_and, and_false, and_true, true_and, and_self, true_or, or_true, false_or, or_false, not_true_eq_false, not_false_eq_true, forall_const, implies_true, if_true, if_false, reduceCtorEq, reduceIte, Nat.reduceAdd, Nat.reduceMul, Nat.reduceSub, Nat.reduceDiv, Nat.reduceMod, Nat.reduceEqDiff, Nat.reduceLeDiff, Nat.reduceLT, Nat.zero_le, Nat.lt_add_one, Nat.le_refl, Nat.sub_zero, Nat.zero_lt_succ, ge_iff_le, ji_m2, ji_m1, ji_0, ji_1, ji_2, ji_3, ji_4, ji_5, ji_6, ji_7, ji_8, ji_10, ji_12, ji_29, ji_30, ji_31, ji_40, ji_60, ji_70, ji_80, ji_81, ji_360, ji_512, ji_972, ji_1000000, ji_2147483639, jl_m1, jl_0, jl_1, h10, kV, r448, r454, cJ.1.1]
  refine k_cstart (d := d + 1) cJ cI hn81 (fun h1 hF1 h196 hH1 => ?_)
  have cJ1 := JF_J hF1 cJ
  have hG1 : AG (PA v) h h1 tg tg := JF_PA hF1 cJ
  have pV : PA v (tg (ad 0 0)) := by rw [tV]; unfold PA Tg; omega
  have k0 : zK h (ad 0 0) ≠ 0 := by rw [kV]; decide
  have cA1 := cVA_JF cA cJ hF1
  have kV1 : zK h1 (ad 0 0) = 7 := AG_K hG1 kV (by decide)
  have q449 : zR h1 449 (ad 0 0) = some (ad 4 0) := (AG_R hG1 k0 pV 449).trans r449
  have q454 : zR h1 454 (ad 0 0) = some (aj 0) := (AG_R hG1 k0 pV 454).trans r454
  have tV1 : tg (ad 0 0) = Tg v 0 0 := tV
  simp only [e41_19, e41_20, e41_23, o_iload, o_lload, o_aload, o_istore, o_lstore, o_astore, o_iinc, o_ipush, o_lpush, o_null, o_ibin, o_ineg, o_lbin, o_ldv, o_lneg, o_lcmp, o_i2l, o_l2i, o_dup, o_pop, o_dupx, o_dup2, o_ic, o_iz, o_nul, o_acmp, o_tsw, o_gI, o_gR, o_pI, o_pZ, o_pR, o_iald, o_bald, o_lald, o_aald, o_iast, o_bast, o_last, o_aast, o_alen, o_newa, o_new, o_mna, o_cast, o_calls, o_callv, o_calli, o_oinit, o_getC, o_refp, o_cpi, o_cpo, o_mmax, o_mmin, o_lmin, o_iret, o_zret, o_lret, o_aret, o_vret, jd_lo, jd_la, jd_nl, jd_pop, List.length_cons, List.length_nil, List.set_cons_zero, List.set_cons_succ, List.getElem?_cons_zero, List.getElem?_cons_succ, List.replicate_succ, List.replicate_zero, List.cons_append, List.nil_append, List.append_nil, Value.category, Option.toList, va_rf, true_implies, false_implies, false_and, and_false, and_true, true_and, and_self, true_or, or_true, false_or, or_false, not_true_eq_false, not_false_eq_true, forall_const, implies_true, if_true, if_false, reduceCtorEq, reduceIte, Nat.reduceAdd, Nat.reduceMul, Nat.reduceSub, Nat.reduceDiv, Nat.reduceMod, Nat.reduceEqDiff, Nat.reduceLeDiff, Nat.reduceLT, Nat.zero_le, Nat.lt_add_one, Nat.le_refl, Nat.sub_zero, Nat.zero_lt_succ, ge_iff_le, ji_m2, ji_m1, ji_0, ji_1, ji_2, ji_3, ji_4, ji_5, ji_6, ji_7, ji_8, ji_10, ji_12, ji_29, ji_30, ji_31, ji_40, ji_60, ji_70, ji_80, ji_81, ji_360, ji_512, ji_972, ji_1000000, ji_2147483639, jl_m1, jl_0, jl_1, kV1, q449, vLS_K cA1.1]
  refine k_lsize (d := d + 4) cA1.1 ?_
  simp only [e41_28, e41_29, e41_30, o_iload, o_lload, o_aload, o_istore, o_lstore, o_astore, o_iinc, o_ipush, o_lpush, o_null, o_ibin, o_ineg, o_lbin, o_ldv, o_lneg, o_lcmp, o_i2l, o_l2i, o_dup, o_pop, o_dupx, o_dup2, o_ic, o_iz, o_nul, o_acmp, o_tsw, o_gI, o_gR, o_pI, o_pZ, o_pR, o_iald, o_bald, o_lald, o_aald, o_iast, o_bast, o_last, o_aast, o_alen, o_newa, o_new, o_mna, o_cast, o_calls, o_callv, o_calli, o_oinit, o_getC, o_refp, o_cpi, o_cpo, o_mmax, o_mmin, o_lmin, o_iret, o_zret, o_lret, o_aret, o_vret, jd_lo, jd_la, jd_nl, jd_pop, List.length_cons, List.length_nil, List.set_cons_zero, List.set_cons_succ, List.getElem?_cons_zero, List.getElem?_cons_succ, List.replicate_succ, List.replicate_zero, List.cons_append, List.nil_append, List.append_nil, Value.category, Option.toList, va_rf, true_implies, false_implies, false_and, and_false, and_true, true_and, and_self, true_or, or_true, false_or, or_false, not_true_eq_false, not_false_eq_true, forall_const, implies_true, if_true, if_false, reduceCtorEq, reduceIte, Nat.reduceAdd, Nat.reduceMul, Nat.reduceSub, Nat.reduceDiv, Nat.reduceMod, Nat.reduceEqDiff, Nat.reduceLeDiff, Nat.reduceLT, Nat.zero_le, Nat.lt_add_one, Nat.le_refl, Nat.sub_zero, Nat.zero_lt_succ, ge_iff_le, ji_m2, ji_m1, ji_0, ji_1, ji_2, ji_3, ji_4, ji_5, ji_6, ji_7, ji_8, ji_10, ji_12, ji_29, ji_30, ji_31, ji_40, ji_60, ji_70, ji_80, ji_81, ji_360, ji_512, ji_972, ji_1000000, ji_2147483639, jl_m1, jl_0, jl_1]
  refine l_ae (d := d + 2) hI hJ kV1 tV1 q449 q454 cJ1 cA1 (fun h2 x hG2 cJ2 cA2 hH2 hR2 h3 => ?_) na h1 (Nat.le_refl _) AG_r cJ1 h196 cA1 (fun i hi => ?_) (fun a h1 h2 => by omega) (fun _ _ _ _ => rfl)
  · have hG02 : AG (PA v) h h2 tg tg := AG_t hG1 hG2
    have kV2 : zK h2 (ad 0 0) = 7 := AG_K hG02 kV (by decide)
    have w448 : zR h2 448 (ad 0 0) = some (ad 1 0) := (AG_R hG02 k0 pV 448).trans r448
    have w449 : zR h2 449 (ad 0 0) = some (ad 4 0) := (AG_R hG02 k0 pV 449).trans r449
    have w451 : zR h2 451 (ad 0 0) = some (ad 17 0) := (AG_R hG02 k0 pV 451).trans r451
    have w454 : zR h2 454 (ad 0 0) = some (aj 0) := (AG_R hG02 k0 pV 454).trans r454
    have e3 : ∀ i f, i < n → zI h2 f (ad 3 i) = zI h f (ad 3 i) := fun i f hi => by
      have k5 := (cI.2 i hi).1.1
      rw [h3 i f (by omega) (AG_K hG1 k5 (by decide)), hF1.2.2.2.2.1 f _ (fun z => by rw [z.1, cJ.1.1] at k5; exact absurd k5 (by decide))]
    have cI2 : cVI h2 tg ad v n s.2.1 := ⟨vLS_fr cI.1 hG02 (by unfold PA Tg; omega), fun i hi => by
      have := cI.2 i hi
      have k50 : zK h (ad 3 i) ≠ 0 := by rw [this.1.1]; decide
      unfold cIn at this ⊢
      rw [(hG02 _ k50).1, e3 i _ hi, e3 i _ hi, e3 i _ hi, e3 i _ hi, e3 i _ hi, e3 i _ hi, e3 i _ hi]
      exact this⟩
    simp only [e41_81, e41_82, o_iload, o_lload, o_aload, o_istore, o_lstore, o_astore, o_iinc, o_ipush, o_lpush, o_null, o_ibin, o_ineg, o_lbin, o_ldv, o_lneg, o_lcmp, o_i2l, o_l2i, o_dup, o_pop, o_dupx, o_dup2, o_ic, o_iz, o_nul, o_acmp, o_tsw, o_gI, o_gR, o_pI, o_pZ, o_pR, o_iald, o_bald, o_lald, o_aald, o_iast, o_bast, o_last, o_aast, o_alen, o_newa, o_new, o_mna, o_cast, o_calls, o_callv, o_calli, o_oinit, o_getC, o_refp, o_cpi, o_cpo, o_mmax, o_mmin, o_lmin, o_iret, o_zret, o_lret, o_aret, o_vret, jd_lo, jd_la, jd_nl, jd_pop, List.length_cons, List.length_nil, List.set_cons_zero, List.set_cons_succ, List.getElem?_cons_zero, List.getElem?_cons_succ, List.replicate_succ, List.replicate_zero, List.cons_append, List.nil_append, List.append_nil, Value.category, Option.toList, va_rf, true_implies, false_implies, false_and, and_false, and_true, true_and, and_self, true_or, or_true, false_or, or_false, not_true_eq_false, not_false_eq_true, forall_const, implies_true, if_true, if_false, reduceCtorEq, reduceIte, Nat.reduceAdd, Nat.reduceMul, Nat.reduceSub, Nat.reduceDiv, Nat.reduceMod, Nat.reduceEqDiff, Nat.reduceLeDiff, Nat.reduceLT, Nat.zero_le, Nat.lt_add_one, Nat.le_refl, Nat.sub_zero, Nat.zero_lt_succ, ge_iff_le, ji_m2, ji_m1, ji_0, ji_1, ji_2, ji_3, ji_4, ji_5, ji_6, ji_7, ji_8, ji_10, ji_12, ji_29, ji_30, ji_31, ji_40, ji_60, ji_70, ji_80, ji_81, ji_360, ji_512, ji_972, ji_1000000, ji_2147483639, jl_m1, jl_0, jl_1]
    refine l_has (d := d + 2) kV2 w448 w454 cJ2 cI2 hn81 hH2 (fun h3' x hF3 hA3 => ?_) n 0 h2 (by omega) ⟨rfl, rfl, rfl, rfl, rfl, rfl, fun _ _ _ => rfl⟩ (fun i hi => by omega)
    have hG3 := HF_PE hF3 cI2 hn81
    have cI3 := HF_I hF3 cI2
    have hG03 : AG (PE v) h h3' tg tg := AG_t (PA_PE hG02) hG3
    have kV3 : zK h3' (ad 0 0) = 7 := by rw [hF3.1]; exact kV2
    have cA3 : cVA h3' tg ad v na s.2.2.1 s.2.2.2 := by
      refine ⟨?_, fun a ha => ?_⟩
      · exact vLS_fr cA2.1 hG3 (by unfold PE Tg; omega)
      · obtain ⟨⟨o1, o2⟩, c1, c2, c3, c4⟩ := cA2.2 a ha
        have nn3 : ∀ f, zI h3' f (ad 6 a) = zI h2 f (ad 6 a) := fun f => hF3.2.2.2.2.2.2 f _ (fun z => by
          obtain ⟨-, i, hi, z⟩ := z
          have := (cI2.2 i hi).1.1
          rw [← z, o1.1] at this
          exact absurd this (by decide))
        unfold cAo cAc
        rw [hF3.1, hF3.2.1, hF3.2.2.1, hF3.2.2.2.1, nn3, nn3]
        exact ⟨⟨o1, o2⟩, c1, c2, c3, c4⟩
    have cR3 : ∀ a, a < na → cRA h3' ad n s a := fun a ha => by
      have nn3 : ∀ f, zI h3' f (ad 6 a) = zI h2 f (ad 6 a) := fun f => hF3.2.2.2.2.2.2 f _ (fun z => by
        obtain ⟨-, i, hi, z⟩ := z
        have := (cI2.2 i hi).1.1
        rw [← z, (cA2.2 a ha).1.1.1] at this
        exact absurd this (by decide))
      have := hR2 a ha
      unfold cRA at this ⊢
      rw [hF3.2.2.2.1, nn3, nn3, nn3]
      exact this
    have cS2 : cVS h2 tg ad v := cVS_fr cS hG02 (by unfold PA Tg; omega)
    have cS3 : cVS h3' tg ad v := by
      unfold cVS at cS2 ⊢
      rw [hF3.1, hF3.2.1, hF3.2.2.1]
      exact cS2
    have cJ3 : cVJ h3' tg aj := by
      unfold cVJ at cJ2 ⊢
      rw [hF3.1, hF3.2.1, hF3.2.2.1]
      exact cJ2
    have y448 : zR h3' 448 (ad 0 0) = some (ad 1 0) := by rw [hF3.2.1]; exact w448
    have y449 : zR h3' 449 (ad 0 0) = some (ad 4 0) := by rw [hF3.2.1]; exact w449
    have y451 : zR h3' 451 (ad 0 0) = some (ad 17 0) := by rw [hF3.2.1]; exact w451
    simp only [e41_133, e41_134, e41_137, e41_138, e41_141, e41_142, e41_145, o_iload, o_lload, o_aload, o_istore, o_lstore, o_astore, o_iinc, o_ipush, o_lpush, o_null, o_ibin, o_ineg, o_lbin, o_ldv, o_lneg, o_lcmp, o_i2l, o_l2i, o_dup, o_pop, o_dupx, o_dup2, o_ic, o_iz, o_nul, o_acmp, o_tsw, o_gI, o_gR, o_pI, o_pZ, o_pR, o_iald, o_bald, o_lald, o_aald, o_iast, o_bast, o_last, o_aast, o_alen, o_newa, o_new, o_mna, o_cast, o_calls, o_callv, o_calli, o_oinit, o_getC, o_refp, o_cpi, o_cpo, o_mmax, o_mmin, o_lmin, o_iret, o_zret, o_lret, o_aret, o_vret, jd_lo, jd_la, jd_nl, jd_pop, List.length_cons, List.length_nil, List.set_cons_zero, List.set_cons_succ, List.getElem?_cons_zero, List.getElem?_cons_succ, List.replicate_succ, List.replicate_zero, List.cons_append, List.nil_append, List.append_nil, Value.category, Option.toList, va_rf, true_implies, false_implies, false_and, and_false, and_true, true_and, and_self, true_or, or_true, false_or, or_false, not_true_eq_false, not_false_eq_true, forall_const, implies_true, if_true, if_false, reduceCtorEq, reduceIte, Nat.reduceAdd, Nat.reduceMul, Nat.reduceSub, Nat.reduceDiv, Nat.reduceMod, Nat.reduceEqDiff, Nat.reduceLeDiff, Nat.reduceLT, Nat.zero_le, Nat.lt_add_one, Nat.le_refl, Nat.sub_zero, Nat.zero_lt_succ, ge_iff_le, ji_m2, ji_m1, ji_0, ji_1, ji_2, ji_3, ji_4, ji_5, ji_6, ji_7, ji_8, ji_10, ji_12, ji_29, ji_30, ji_31, ji_40, ji_60, ji_70, ji_80, ji_81, ji_360, ji_512, ji_972, ji_1000000, ji_2147483639, jl_m1, jl_0, jl_1, kV3, y448, y449, y451, cS3.1.1]
    refine k_settle (d := d) hI hJ cS3 cI3 cA3 cR3 (fun h4 hF4 hB4 hY4 => ?_)
    have hG4 := SF_AG hF4 cS3
    have w4 : ∀ f b, f ≠ 388 → zI h4 f b = zI h3' f b := fun f b hf => hF4.2.2.2.2.2.1 f b (fun z => hf z.2)
    have cR4 : ∀ a, a < na → cRA h4 ad n s a := fun a ha => cRA_fr (cR3 a ha) (cA3.2 a ha).1 hG4 (fun k _ _ => by unfold Tg; omega) (fun k _ _ => by unfold Tg; omega) (fun k _ _ => by unfold Tg; omega) (fun k _ _ => by unfold Tg; omega)
    have hG04 : AG (PE v) h h4 tg tg := AG_t hG03 (AG_w hG4 (fun u hu k h1 h2 => by
      unfold PE Tg at hu
      unfold Tg
      omega))
    simp only [e41_148, o_iload, o_lload, o_aload, o_istore, o_lstore, o_astore, o_iinc, o_ipush, o_lpush, o_null, o_ibin, o_ineg, o_lbin, o_ldv, o_lneg, o_lcmp, o_i2l, o_l2i, o_dup, o_pop, o_dupx, o_dup2, o_ic, o_iz, o_nul, o_acmp, o_tsw, o_gI, o_gR, o_pI, o_pZ, o_pR, o_iald, o_bald, o_lald, o_aald, o_iast, o_bast, o_last, o_aast, o_alen, o_newa, o_new, o_mna, o_cast, o_calls, o_callv, o_calli, o_oinit, o_getC, o_refp, o_cpi, o_cpo, o_mmax, o_mmin, o_lmin, o_iret, o_zret, o_lret, o_aret, o_vret, jd_lo, jd_la, jd_nl, jd_pop, List.length_cons, List.length_nil, List.set_cons_zero, List.set_cons_succ, List.getElem?_cons_zero, List.getElem?_cons_succ, List.replicate_succ, List.replicate_zero, List.cons_append, List.nil_append, List.append_nil, Value.category, Option.toList, va_rf, true_implies, false_implies, false_and, and_false, and_true, true_and, and_self, true_or, or_true, false_or, or_false, not_true_eq_false, not_false_eq_true, forall_const, implies_true, if_true, if_false, reduceCtorEq, reduceIte, Nat.reduceAdd, Nat.reduceMul, Nat.reduceSub, Nat.reduceDiv, Nat.reduceMod, Nat.reduceEqDiff, Nat.reduceLeDiff, Nat.reduceLT, Nat.zero_le, Nat.lt_add_one, Nat.le_refl, Nat.sub_zero, Nat.zero_lt_succ, ge_iff_le, ji_m2, ji_m1, ji_0, ji_1, ji_2, ji_3, ji_4, ji_5, ji_6, ji_7, ji_8, ji_10, ji_12, ji_29, ji_30, ji_31, ji_40, ji_60, ji_70, ji_80, ji_81, ji_360, ji_512, ji_972, ji_1000000, ji_2147483639, jl_m1, jl_0, jl_1]
    refine hQ1 h4 h6 ⟨fun i hi => ?_, cR4, hB4, hY4.1, hY4.2⟩ (cV0_fr c0 hG04 (by unfold PE Tg; omega)) (cVI_fr cI3 hG4 (fun k _ _ => by unfold Tg; omega) (fun i _ k _ _ => by unfold Tg; omega)) (cVA_fr cA3 hG4 (fun k _ _ => by unfold Tg; omega) (fun b k _ _ _ j _ _ => by unfold Tg; omega)) (SF_S hF4 cS3) ?_ hG04 (fun i hi => ?_)
    · rw [w4 328 _ (by decide)]; exact hA3 i hi
    · unfold cVJ at cJ3 ⊢
      rw [hF4.1, hF4.2.1, hF4.2.2.1]
      exact cJ3
    · rw [w4 327 _ (by decide), hF3.2.2.2.2.2.2 327 _ (fun z => absurd z.1 (by decide)), e3 i _ hi]
  · rw [hH1 i hi, Nat.sub_self]
    obtain ⟨l, w, t, q1, -, -, b1, b2, b3, -⟩ := IV_num hI hi
    show _ = nI (nn (s.2.1 2 i))
    rw [q1, nn_I (by omega)]
theorem aStep_out (hI : IV pp s n lo na p) (ho : nI a = ou) (H : Nat → Nat) : aStep s ou H a = H := by
  funext i
  have g0 : ∀ i, aGood s ou a i = 0 := fun i => if_pos ho
  have s0 : sm (aSp s ou a) 30 = 0 := sm_0 (fun o _ => if_pos ho)
  have m0 : aMade s ou a = 0 := sm_0 (fun i _ => by
    show (if aRi s a i then aGood s ou a i else 0) = 0
    split
    · exact g0 i
    · rfl)
  have su0 : aSu s ou H a = 0 := by
    unfold aSu aEx
    rw [s0, m0, Nat.zero_min]
  unfold aStep
  split
  · next hr =>
    have b0 : aBo s ou H a i = 0 := by
      unfold aBo
      rw [su0]
      exact dv_S0 i
    rw [b0, Nat.sub_zero]
    unfold aPart
    rw [if_pos hr, g0, Nat.add_zero]
  · rfl
set_option maxRecDepth 100000 in
theorem l_wo {x y : Int32} (hI : IV pp s n lo na p) (hJ : JV q s n na p) (kV : zK h V = 7) (tV : tg V = Tg v 0 0) (r449 : zR h 449 V = some (ad 4 0)) (r454 : zR h 454 V = some (aj 0)) (cJ : cVJ h tg aj) (cA : cVA h tg ad v na s.2.2.1 s.2.2.2)
    (hex : ∀ h2 z, JF aj h h2 → (∀ i, i < n → zA h2 (aj 1) i = nI (hs s x na i)) → jd_w g (d + 3) 34 Q 58 [some (.ref V), some (.int x), some (.int y), some (.int z)] [] h2 0 0) :
    ∀ (b : Nat) (h1 : jd_H), b ≤ na → JF aj h h1 → zI h1 196 (aj 0) = nI n → (∀ i, i < n → zA h1 (aj 1) i = nI (hs s x (na - b) i)) → jd_w g (d + 3) 34 Q 23 [some (.ref V), some (.int x), some (.int y), some (.int (nI b - 1))] [] h1 0 0 := by
  have hn81 := IV_81 hI
  have hna := hI.2.2.1.2
  intro b
  induction b with
  | zero =>
    intro h1 hb hF h196 hH
    have hlt : nI 0 - 1 < 0 := by decide
    rw [e34_23]
    simp only [e34_24, o_iload, o_lload, o_aload, o_istore, o_lstore, o_astore, o_iinc, o_ipush, o_lpush, o_null, o_ibin, o_ineg, o_lbin, o_ldv, o_lneg, o_lcmp, o_i2l, o_l2i, o_dup, o_pop, o_dupx, o_dup2, o_ic, o_iz, o_nul, o_acmp, o_tsw, o_gI, o_gR, o_pI, o_pZ, o_pR, o_iald, o_bald, o_lald, o_aald, o_iast, o_bast, o_last, o_aast, o_alen, o_newa, o_new, o_mna, o_cast, o_calls, o_callv, o_calli, o_oinit, o_getC, o_refp, o_cpi, o_cpo, o_mmax, o_mmin, o_lmin, o_iret, o_zret, o_lret, o_aret, o_vret, jd_lo, jd_la, jd_nl, jd_pop, List.length_cons, List.length_nil, List.set_cons_zero, List.set_cons_succ, List.getElem?_cons_zero, List.getElem?_cons_succ, List.replicate_succ, List.replicate_zero, List.cons_append, List.nil_append, List.append_nil, Value.category, Option.toList, va_rf, true_implies, false_implies, false_and, and_false, and_true, true_and, and_self, true_or, or_true, false_or, or_false, not_true_eq_false, not_false_eq_true, forall_const, implies_true, if_true, if_false, reduceCtorEq, reduceIte, Nat.reduceAdd, Nat.reduceMul, Nat.reduceSub, Nat.reduceDiv, Nat.reduceMod, Nat.reduceEqDiff, Nat.reduceLeDiff, Nat.reduceLT, Nat.zero_le, Nat.lt_add_one, Nat.le_refl, Nat.sub_zero, Nat.zero_lt_succ, ge_iff_le, ji_m2, ji_m1, ji_0, ji_1, ji_2, ji_3, ji_4, ji_5, ji_6, ji_7, ji_8, ji_10, ji_12, ji_29, ji_30, ji_31, ji_40, ji_60, ji_70, ji_80, ji_81, ji_360, ji_512, ji_972, ji_1000000, ji_2147483639, jl_m1, jl_0, jl_1, hlt]
    exact hex h1 _ hF hH
  | succ b ih =>
    intro h1 hb hF h196 hH
    have hbn : b < na := by omega
    have hnlt : ¬ nI b < 0 := nI_pos (by omega)
    have cJ1 := JF_J hF cJ
    have cA1 := cVA_JF cA cJ hF
    have kV1 : zK h1 V = 7 := by rw [hF.1]; exact kV
    have q449 : zR h1 449 V = some (ad 4 0) := by rw [hF.2.1]; exact r449
    have q454 : zR h1 454 V = some (aj 0) := by rw [hF.2.1]; exact r454
    have em : nI b + (-1) = nI b - 1 := (Int32.sub_eq_add_neg _ _).symm
    have eA : hA s x b = hs s x (na - (b + 1)) := by
      unfold hA
      rw [IV_ca hI]
      congr 1
      omega
    have eS : hs s x (na - b) = aStep s x (hA s x b) b := by
      rw [eA, show na - b = (na - (b + 1)) + 1 by omega]
      show aStep s x (hs s x (na - (b + 1))) (ca s - 1 - (na - (b + 1))) = _
      rw [IV_ca hI, show na - 1 - (na - (b + 1)) = b by omega]
    have ob := (cA1.2 b hbn).1
    rw [nI_pred, e34_23]
    by_cases hao : nI b = x
    · have haoT : (nI b = x) = True := eq_true hao
      simp only [e34_24, e34_27, e34_28, e34_29, e34_52, e34_55, o_iload, o_lload, o_aload, o_istore, o_lstore, o_astore, o_iinc, o_ipush, o_lpush, o_null, o_ibin, o_ineg, o_lbin, o_ldv, o_lneg, o_lcmp, o_i2l, o_l2i, o_dup, o_pop, o_dupx, o_dup2, o_ic, o_iz, o_nul, o_acmp, o_tsw, o_gI, o_gR, o_pI, o_pZ, o_pR, o_iald, o_bald, o_lald, o_aald, o_iast, o_bast, o_last, o_aast, o_alen, o_newa, o_new, o_mna, o_cast, o_calls, o_callv, o_calli, o_oinit, o_getC, o_refp, o_cpi, o_cpo, o_mmax, o_mmin, o_lmin, o_iret, o_zret, o_lret, o_aret, o_vret, jd_lo, jd_la, jd_nl, jd_pop, List.length_cons, List.length_nil, List.set_cons_zero, List.set_cons_succ, List.getElem?_cons_zero, List.getElem?_cons_succ, List.replicate_succ, List.replicate_zero, List.cons_append, List.nil_append, List.append_nil, Value.category, Option.toList, va_rf, true_implies, false_implies, false_and, and_false, and_true, true_and, and_self, true_or, or_true, false_or, or_false, not_true_eq_false, not_false_eq_true, forall_const, implies_true, if_true, if_false, reduceCtorEq, reduceIte, Nat.reduceAdd, Nat.reduceMul, Nat.reduceSub, Nat.reduceDiv, Nat.reduceMod, Nat.reduceEqDiff, Nat.reduceLeDiff, Nat.reduceLT, Nat.zero_le, Nat.lt_add_one, Nat.le_refl, Nat.sub_zero, Nat.zero_lt_succ, ge_iff_le, ji_m2, ji_m1, ji_0, ji_1, ji_2, ji_3, ji_4, ji_5, ji_6, ji_7, ji_8, ji_10, ji_12, ji_29, ji_30, ji_31, ji_40, ji_60, ji_70, ji_80, ji_81, ji_360, ji_512, ji_972, ji_1000000, ji_2147483639, jl_m1, jl_0, jl_1, hnlt, haoT, em]
      refine ih h1 (by omega) hF h196 (fun i hi => ?_)
      rw [hH i hi, eS, aStep_out hI hao, eA]
    · have cAJb : cAJ h1 tg ad aj v n b s (hA s x b) := ⟨cJ1, h196, by rw [eA]; exact hH, ob, (cA1.2 b hbn).2⟩
      simp only [e34_24, e34_27, e34_28, e34_29, e34_32, e34_33, e34_36, e34_37, e34_40, e34_41, o_iload, o_lload, o_aload, o_istore, o_lstore, o_astore, o_iinc, o_ipush, o_lpush, o_null, o_ibin, o_ineg, o_lbin, o_ldv, o_lneg, o_lcmp, o_i2l, o_l2i, o_dup, o_pop, o_dupx, o_dup2, o_ic, o_iz, o_nul, o_acmp, o_tsw, o_gI, o_gR, o_pI, o_pZ, o_pR, o_iald, o_bald, o_lald, o_aald, o_iast, o_bast, o_last, o_aast, o_alen, o_newa, o_new, o_mna, o_cast, o_calls, o_callv, o_calli, o_oinit, o_getC, o_refp, o_cpi, o_cpo, o_mmax, o_mmin, o_lmin, o_iret, o_zret, o_lret, o_aret, o_vret, jd_lo, jd_la, jd_nl, jd_pop, List.length_cons, List.length_nil, List.set_cons_zero, List.set_cons_succ, List.getElem?_cons_zero, List.getElem?_cons_succ, List.replicate_succ, List.replicate_zero, List.cons_append, List.nil_append, List.append_nil, Value.category, Option.toList, va_rf, true_implies, false_implies, false_and, and_false, and_true, true_and, and_self, true_or, or_true, false_or, or_false, not_true_eq_false, not_false_eq_true, forall_const, implies_true, if_true, if_false, reduceCtorEq, reduceIte, Nat.reduceAdd, Nat.reduceMul, Nat.reduceSub, Nat.reduceDiv, Nat.reduceMod, Nat.reduceEqDiff, Nat.reduceLeDiff, Nat.reduceLT, Nat.zero_le, Nat.lt_add_one, Nat.le_refl, Nat.sub_zero, Nat.zero_lt_succ, ge_iff_le, ji_m2, ji_m1, ji_0, ji_1, ji_2, ji_3, ji_4, ji_5, ji_6, ji_7, ji_8, ji_10, ji_12, ji_29, ji_30, ji_31, ji_40, ji_60, ji_70, ji_80, ji_81, ji_360, ji_512, ji_972, ji_1000000, ji_2147483639, jl_m1, jl_0, jl_1, hnlt, hao, kV1, q449, q454, vLS_K cA1.1]
      refine k_lget (d := d) cA1.1 hbn ?_
      simp only [e34_46, e34_49, o_iload, o_lload, o_aload, o_istore, o_lstore, o_astore, o_iinc, o_ipush, o_lpush, o_null, o_ibin, o_ineg, o_lbin, o_ldv, o_lneg, o_lcmp, o_i2l, o_l2i, o_dup, o_pop, o_dupx, o_dup2, o_ic, o_iz, o_nul, o_acmp, o_tsw, o_gI, o_gR, o_pI, o_pZ, o_pR, o_iald, o_bald, o_lald, o_aald, o_iast, o_bast, o_last, o_aast, o_alen, o_newa, o_new, o_mna, o_cast, o_calls, o_callv, o_calli, o_oinit, o_getC, o_refp, o_cpi, o_cpo, o_mmax, o_mmin, o_lmin, o_iret, o_zret, o_lret, o_aret, o_vret, jd_lo, jd_la, jd_nl, jd_pop, List.length_cons, List.length_nil, List.set_cons_zero, List.set_cons_succ, List.getElem?_cons_zero, List.getElem?_cons_succ, List.replicate_succ, List.replicate_zero, List.cons_append, List.nil_append, List.append_nil, Value.category, Option.toList, va_rf, true_implies, false_implies, false_and, and_false, and_true, true_and, and_self, true_or, or_true, false_or, or_false, not_true_eq_false, not_false_eq_true, forall_const, implies_true, if_true, if_false, reduceCtorEq, reduceIte, Nat.reduceAdd, Nat.reduceMul, Nat.reduceSub, Nat.reduceDiv, Nat.reduceMod, Nat.reduceEqDiff, Nat.reduceLeDiff, Nat.reduceLT, Nat.zero_le, Nat.lt_add_one, Nat.le_refl, Nat.sub_zero, Nat.zero_lt_succ, ge_iff_le, ji_m2, ji_m1, ji_0, ji_1, ji_2, ji_3, ji_4, ji_5, ji_6, ji_7, ji_8, ji_10, ji_12, ji_29, ji_30, ji_31, ji_40, ji_60, ji_70, ji_80, ji_81, ji_360, ji_512, ji_972, ji_1000000, ji_2147483639, jl_m1, jl_0, jl_1, ob.1.1, cJ1.1.1]
      refine k_cadj (d := d) (ou := x) hI hJ hbn hao cAJb (fun i hi => hA_b hI hJ hi hbn) (fun h2 hF2 h2p h2x h2s h2a hA2 => ?_)
      simp only [e34_52, e34_55, o_iload, o_lload, o_aload, o_istore, o_lstore, o_astore, o_iinc, o_ipush, o_lpush, o_null, o_ibin, o_ineg, o_lbin, o_ldv, o_lneg, o_lcmp, o_i2l, o_l2i, o_dup, o_pop, o_dupx, o_dup2, o_ic, o_iz, o_nul, o_acmp, o_tsw, o_gI, o_gR, o_pI, o_pZ, o_pR, o_iald, o_bald, o_lald, o_aald, o_iast, o_bast, o_last, o_aast, o_alen, o_newa, o_new, o_mna, o_cast, o_calls, o_callv, o_calli, o_oinit, o_getC, o_refp, o_cpi, o_cpo, o_mmax, o_mmin, o_lmin, o_iret, o_zret, o_lret, o_aret, o_vret, jd_lo, jd_la, jd_nl, jd_pop, List.length_cons, List.length_nil, List.set_cons_zero, List.set_cons_succ, List.getElem?_cons_zero, List.getElem?_cons_succ, List.replicate_succ, List.replicate_zero, List.cons_append, List.nil_append, List.append_nil, Value.category, Option.toList, va_rf, true_implies, false_implies, false_and, and_false, and_true, true_and, and_self, true_or, or_true, false_or, or_false, not_true_eq_false, not_false_eq_true, forall_const, implies_true, if_true, if_false, reduceCtorEq, reduceIte, Nat.reduceAdd, Nat.reduceMul, Nat.reduceSub, Nat.reduceDiv, Nat.reduceMod, Nat.reduceEqDiff, Nat.reduceLeDiff, Nat.reduceLT, Nat.zero_le, Nat.lt_add_one, Nat.le_refl, Nat.sub_zero, Nat.zero_lt_succ, ge_iff_le, ji_m2, ji_m1, ji_0, ji_1, ji_2, ji_3, ji_4, ji_5, ji_6, ji_7, ji_8, ji_10, ji_12, ji_29, ji_30, ji_31, ji_40, ji_60, ji_70, ji_80, ji_81, ji_360, ji_512, ji_972, ji_1000000, ji_2147483639, jl_m1, jl_0, jl_1, em]
      refine ih h2 (by omega) (JF_t hF hF2) h2p (fun i hi => ?_)
      rw [(hA2 i hi).1, eS]
set_option maxRecDepth 100000 in
theorem k_without {x : Int32} {j : Nat} {fv : Nat → Int32} (hI : IV pp s n lo na p) (hJ : JV q s n na p) (c0 : cV0 h tg ad aj v po q fv) (cI : cVI h tg ad v n s.2.1) (cA : cVA h tg ad v na s.2.2.1 s.2.2.2) (cJ : cVJ h tg aj) (hj : j < n)
    (hQ : ∀ h', JF aj h h' → Q (some (.int (nI (hs s x na j)))) h') : jd_WM g (d + 5) 34 [.ref (ad 0 0), .int x, .int (nI j)] h Q := by
  refine ⟨Nat.le_of_ble_eq_true rfl, ?_⟩; show jd_w g (d + 4) 34 Q 0 [some (.ref (ad 0 0)), some (.int x), some (.int (nI j)), none] [] h 0 0
  have hn81 := IV_81 hI
  have hna := hI.2.2.1.2
  obtain ⟨⟨kV, tV⟩, ⟨r448, r449, r450, r451, r454⟩, -⟩ := id c0
  have h10 : ¬ (1 : Int32) = 0 := by decide
  simp only [e34_0, e34_1, e34_4, e34_5, e34_8, o_iload, o_lload, o_aload, o_istore, o_lstore, o_astore, o_iinc, o_ipush, o_lpush, o_null, o_ibin, o_ineg, o_lbin, o_ldv, o_lneg, o_lcmp, o_i2l, o_l2i, o_dup, o_pop, o_dupx, o_dup2, o_ic, o_iz, o_nul, o_acmp, o_tsw, o_gI, o_gR, o_pI, o_pZ, o_pR, o_iald, o_bald, o_lald, o_aald, o_iast, o_bast, o_last, o_aast, o_alen, o_newa, o_new, o_mna, o_cast, o_calls, o_callv, o_calli, o_oinit, o_getC, o_refp, o_cpi, o_cpo, o_mmax, o_mmin, o_lmin, o_iret, o_zret, o_lret, o_aret, o_vret, jd_lo, jd_la, jd_nl, jd_pop, List.length_cons, List.length_nil, List.set_cons_zero, List.set_cons_succ, List.getElem?_cons_zero, List.getElem?_cons_succ, List.replicate_succ, List.replicate_zero, List.cons_append, List.nil_append, List.append_nil, Value.category, Option.toList, va_rf, true_implies, false_implies, false_and, and_false, and_true, true_and, and_self, true_or, or_true, false_or, or_false, not_true_eq_false, not_false_eq_true, forall_const, implies_true, if_true, if_false, reduceCtorEq, reduceIte, Nat.reduceAdd, Nat.reduceMul, Nat.reduceSub, Nat.reduceDiv, Nat.reduceMod, Nat.reduceEqDiff, Nat.reduceLeDiff, Nat.reduceLT, Nat.zero_le, Nat.lt_add_one, Nat.le_refl, Nat.sub_zero, Nat.zero_lt_succ, ge_iff_le, ji_m2, ji_m1, ji_0, ji_1, ji_2, ji_3, ji_4, ji_5, ji_6, ji_7, ji_8, ji_10, ji_12, ji_29, ji_30, ji_31, ji_40, ji_60, ji_70, ji_80, ji_81, ji_360, ji_512, ji_972, ji_1000000, ji_2147483639, jl_m1, jl_0, jl_1, kV, r448, r454, cJ.1.1]
  refine k_cstart (d := d) cJ cI hn81 (fun h1 hF1 h196 hH1 => ?_)
  have cJ1 := JF_J hF1 cJ
  have cA1 := cVA_JF cA cJ hF1
  have kV1 : zK h1 (ad 0 0) = 7 := by rw [hF1.1]; exact kV
  have q449 : zR h1 449 (ad 0 0) = some (ad 4 0) := by rw [hF1.2.1]; exact r449
  have q454 : zR h1 454 (ad 0 0) = some (aj 0) := by rw [hF1.2.1]; exact r454
  simp only [e34_11, e34_12, e34_15, o_iload, o_lload, o_aload, o_istore, o_lstore, o_astore, o_iinc, o_ipush, o_lpush, o_null, o_ibin, o_ineg, o_lbin, o_ldv, o_lneg, o_lcmp, o_i2l, o_l2i, o_dup, o_pop, o_dupx, o_dup2, o_ic, o_iz, o_nul, o_acmp, o_tsw, o_gI, o_gR, o_pI, o_pZ, o_pR, o_iald, o_bald, o_lald, o_aald, o_iast, o_bast, o_last, o_aast, o_alen, o_newa, o_new, o_mna, o_cast, o_calls, o_callv, o_calli, o_oinit, o_getC, o_refp, o_cpi, o_cpo, o_mmax, o_mmin, o_lmin, o_iret, o_zret, o_lret, o_aret, o_vret, jd_lo, jd_la, jd_nl, jd_pop, List.length_cons, List.length_nil, List.set_cons_zero, List.set_cons_succ, List.getElem?_cons_zero, List.getElem?_cons_succ, List.replicate_succ, List.replicate_zero, List.cons_append, List.nil_append, List.append_nil, Value.category, Option.toList, va_rf, true_implies, false_implies, false_and, and_false, and_true, true_and, and_self, true_or, or_true, false_or, or_false, not_true_eq_false, not_false_eq_true, forall_const, implies_true, if_true, if_false, reduceCtorEq, reduceIte, Nat.reduceAdd, Nat.reduceMul, Nat.reduceSub, Nat.reduceDiv, Nat.reduceMod, Nat.reduceEqDiff, Nat.reduceLeDiff, Nat.reduceLT, Nat.zero_le, Nat.lt_add_one, Nat.le_refl, Nat.sub_zero, Nat.zero_lt_succ, ge_iff_le, ji_m2, ji_m1, ji_0, ji_1, ji_2, ji_3, ji_4, ji_5, ji_6, ji_7, ji_8, ji_10, ji_12, ji_29, ji_30, ji_31, ji_40, ji_60, ji_70, ji_80, ji_81, ji_360, ji_512, ji_972, ji_1000000, ji_2147483639, jl_m1, jl_0, jl_1, kV1, q449, vLS_K cA1.1]
  refine k_lsize (d := d + 3) cA1.1 ?_
  simp only [e34_20, e34_21, e34_22, o_iload, o_lload, o_aload, o_istore, o_lstore, o_astore, o_iinc, o_ipush, o_lpush, o_null, o_ibin, o_ineg, o_lbin, o_ldv, o_lneg, o_lcmp, o_i2l, o_l2i, o_dup, o_pop, o_dupx, o_dup2, o_ic, o_iz, o_nul, o_acmp, o_tsw, o_gI, o_gR, o_pI, o_pZ, o_pR, o_iald, o_bald, o_lald, o_aald, o_iast, o_bast, o_last, o_aast, o_alen, o_newa, o_new, o_mna, o_cast, o_calls, o_callv, o_calli, o_oinit, o_getC, o_refp, o_cpi, o_cpo, o_mmax, o_mmin, o_lmin, o_iret, o_zret, o_lret, o_aret, o_vret, jd_lo, jd_la, jd_nl, jd_pop, List.length_cons, List.length_nil, List.set_cons_zero, List.set_cons_succ, List.getElem?_cons_zero, List.getElem?_cons_succ, List.replicate_succ, List.replicate_zero, List.cons_append, List.nil_append, List.append_nil, Value.category, Option.toList, va_rf, true_implies, false_implies, false_and, and_false, and_true, true_and, and_self, true_or, or_true, false_or, or_false, not_true_eq_false, not_false_eq_true, forall_const, implies_true, if_true, if_false, reduceCtorEq, reduceIte, Nat.reduceAdd, Nat.reduceMul, Nat.reduceSub, Nat.reduceDiv, Nat.reduceMod, Nat.reduceEqDiff, Nat.reduceLeDiff, Nat.reduceLT, Nat.zero_le, Nat.lt_add_one, Nat.le_refl, Nat.sub_zero, Nat.zero_lt_succ, ge_iff_le, ji_m2, ji_m1, ji_0, ji_1, ji_2, ji_3, ji_4, ji_5, ji_6, ji_7, ji_8, ji_10, ji_12, ji_29, ji_30, ji_31, ji_40, ji_60, ji_70, ji_80, ji_81, ji_360, ji_512, ji_972, ji_1000000, ji_2147483639, jl_m1, jl_0, jl_1]
  refine l_wo (d := d + 1) hI hJ kV1 tV q449 q454 cJ1 cA1 (fun h2 z hF2 hH2 => ?_) na h1 (Nat.le_refl _) JF_r h196 (fun i hi => ?_)
  · have cJ2 := JF_J hF2 cJ1
    have kV2 : zK h2 (ad 0 0) = 7 := by rw [hF2.1]; exact kV1
    have w454 : zR h2 454 (ad 0 0) = some (aj 0) := by rw [hF2.2.1]; exact q454
    have hj81 : j < 81 := by omega
    have l1 := (cJ2.2.2.2 1 (by decide) (by decide)).1
    simp only [e34_58, e34_59, e34_60, e34_62, o_iload, o_lload, o_aload, o_istore, o_lstore, o_astore, o_iinc, o_ipush, o_lpush, o_null, o_ibin, o_ineg, o_lbin, o_ldv, o_lneg, o_lcmp, o_i2l, o_l2i, o_dup, o_pop, o_dupx, o_dup2, o_ic, o_iz, o_nul, o_acmp, o_tsw, o_gI, o_gR, o_pI, o_pZ, o_pR, o_iald, o_bald, o_lald, o_aald, o_iast, o_bast, o_last, o_aast, o_alen, o_newa, o_new, o_mna, o_cast, o_calls, o_callv, o_calli, o_oinit, o_getC, o_refp, o_cpi, o_cpo, o_mmax, o_mmin, o_lmin, o_iret, o_zret, o_lret, o_aret, o_vret, jd_lo, jd_la, jd_nl, jd_pop, List.length_cons, List.length_nil, List.set_cons_zero, List.set_cons_succ, List.getElem?_cons_zero, List.getElem?_cons_succ, List.replicate_succ, List.replicate_zero, List.cons_append, List.nil_append, List.append_nil, Value.category, Option.toList, va_rf, true_implies, false_implies, false_and, and_false, and_true, true_and, and_self, true_or, or_true, false_or, or_false, not_true_eq_false, not_false_eq_true, forall_const, implies_true, if_true, if_false, reduceCtorEq, reduceIte, Nat.reduceAdd, Nat.reduceMul, Nat.reduceSub, Nat.reduceDiv, Nat.reduceMod, Nat.reduceEqDiff, Nat.reduceLeDiff, Nat.reduceLT, Nat.zero_le, Nat.lt_add_one, Nat.le_refl, Nat.sub_zero, Nat.zero_lt_succ, ge_iff_le, ji_m2, ji_m1, ji_0, ji_1, ji_2, ji_3, ji_4, ji_5, ji_6, ji_7, ji_8, ji_10, ji_12, ji_29, ji_30, ji_31, ji_40, ji_60, ji_70, ji_80, ji_81, ji_360, ji_512, ji_972, ji_1000000, ji_2147483639, jl_m1, jl_0, jl_1]
    refine k_isWithin (d := d + 3) ?_
    rw [if_pos (show 0 ≤ nI j ∧ nI j ≤ 80 from ⟨nI_pos' (by omega), nI_le (b := 80) (by omega) (by decide)⟩)]
    simp only [e34_65, e34_68, e34_69, e34_72, e34_75, e34_76, e34_77, e34_80, e34_81, o_iload, o_lload, o_aload, o_istore, o_lstore, o_astore, o_iinc, o_ipush, o_lpush, o_null, o_ibin, o_ineg, o_lbin, o_ldv, o_lneg, o_lcmp, o_i2l, o_l2i, o_dup, o_pop, o_dupx, o_dup2, o_ic, o_iz, o_nul, o_acmp, o_tsw, o_gI, o_gR, o_pI, o_pZ, o_pR, o_iald, o_bald, o_lald, o_aald, o_iast, o_bast, o_last, o_aast, o_alen, o_newa, o_new, o_mna, o_cast, o_calls, o_callv, o_calli, o_oinit, o_getC, o_refp, o_cpi, o_cpo, o_mmax, o_mmin, o_lmin, o_iret, o_zret, o_lret, o_aret, o_vret, jd_lo, jd_la, jd_nl, jd_pop, List.length_cons, List.length_nil, List.set_cons_zero, List.set_cons_succ, List.getElem?_cons_zero, List.getElem?_cons_succ, List.replicate_succ, List.replicate_zero, List.cons_append, List.nil_append, List.append_nil, Value.category, Option.toList, va_rf, true_implies, false_implies, false_and, and_false, and_true, true_and, and_self, true_or, or_true, false_or, or_false, not_true_eq_false, not_false_eq_true, forall_const, implies_true, if_true, if_false, reduceCtorEq, reduceIte, Nat.reduceAdd, Nat.reduceMul, Nat.reduceSub, Nat.reduceDiv, Nat.reduceMod, Nat.reduceEqDiff, Nat.reduceLeDiff, Nat.reduceLT, Nat.zero_le, Nat.lt_add_one, Nat.le_refl, Nat.sub_zero, Nat.zero_lt_succ, ge_iff_le, ji_m2, ji_m1, ji_0, ji_1, ji_2, ji_3, ji_4, ji_5, ji_6, ji_7, ji_8, ji_10, ji_12, ji_29, ji_30, ji_31, ji_40, ji_60, ji_70, ji_80, ji_81, ji_360, ji_512, ji_972, ji_1000000, ji_2147483639, jl_m1, jl_0, jl_1, h10, kV2, w454, cJ2.1.1, cJ2.2.1.1, cJ2.2.2.1.1, l1, jn_in hj81 (by decide), jn_cl hj81 (by decide), hH2 j hj]
    exact hQ h2 (JF_t hF1 hF2)
  · rw [hH1 i hi, Nat.sub_self]
    obtain ⟨l, w, t, q1, -, -, b1, b2, b3, -⟩ := IV_num hI hi
    show _ = nI (nn (s.2.1 2 i))
    rw [q1, nn_I (by omega)]
end
