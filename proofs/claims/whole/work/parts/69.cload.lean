/-! the class: load -/
/-- an interest that is not yet of a voyage: its row -/
def cNew (h : jd_H) (X : Nat) (row : Nat → Int32) : Prop := zK h X = 5 ∧ zI h 320 X = row 0 ∧ zI h 321 X = row 1 ∧ zI h 322 X = row 3 ∧ zI h 323 X = row 5 ∧ zI h 324 X = row 6 ∧ zI h 325 X = row 4 ∧ zI h 326 X = row 2
def adX (ad : Nat → Nat → Nat) (n X : Nat) : Nat → Nat → Nat := fun k i => if k = 3 ∧ i = n then X else ad k i
section
variable {g d : Nat} {h h' : jd_H} {Q : jd_Q} {tg tg' aj : Nat → Nat} {ad : Nat → Nat → Nat} {v q n lo na p X : Nat} {po w0 pp : Int32} {l : List Ev} {s : VS} {row : Nat → Int32} {f : Nat → Nat → Int32} {P : Nat → Prop}
set_option maxRecDepth 100000 in
theorem k_iinit {a b c e f' g' : Int32} (hk : zK h X = 5) (hQ : Q none (wI (wI (wI (wI (wI (wI (wI h 320 X a) 321 X b) 322 X c) 323 X e) 324 X f') 325 X g') 326 X b)) : jd_WM g (d + 2) 10 [.ref X, .int a, .int b, .int c, .int e, .int f', .int g'] h Q := by
  refine ⟨Nat.le_of_ble_eq_true rfl, ?_⟩; show jd_w g (d + 1) 10 Q 0 [some (.ref X), some (.int a), some (.int b), some (.int c), some (.int e), some (.int f'), some (.int g')] [] h 0 0
  simp only [e10_0, e10_1, e10_4, e10_5, e10_6, e10_9, e10_10, e10_11, e10_14, e10_15, e10_16, e10_19, e10_20, e10_22, e10_25, e10_26, e10_28, e10_31, e10_32, e10_34, e10_37, e10_38, e10_39, e10_42, o_iload, o_lload, o_aload, o_istore, o_lstore, o_astore, o_iinc, o_ipush, o_lpush, o_null, o_ibin, o_ineg, o_lbin, o_ldv, o_lneg, o_lcmp, o_i2l, o_l2i, o_dup, o_pop, o_dupx, o_dup2, o_ic, o_iz, o_nul, o_acmp, o_tsw, o_gI, o_gR, o_pI, o_pZ, o_pR, o_iald, o_bald, o_lald, o_aald, o_iast, o_bast, o_last, o_aast, o_alen, o_newa, o_new, o_mna, o_cast, o_calls, o_callv, o_calli, o_oinit, o_getC, o_refp, o_cpi, o_cpo, o_mmax, o_mmin, o_lmin, o_iret, o_zret, o_lret, o_aret, o_vret, jd_lo, jd_la, jd_nl, jd_pop, List.length_cons, List.length_nil, List.set_cons_zero, List.set_cons_succ, List.getElem?_cons_zero, List.getElem?_cons_succ, List.replicate_succ, List.replicate_zero, List.cons_append, List.nil_append, List.append_nil, Value.category, Option.toList, va_rf, true_implies, false_implies, false_and, and_false, and_true, true_and, and_self, true_or, or_true, false_or, or_false, not_true_eq_false, not_false_eq_true, forall_const, implies_true, if_true, if_false, reduceCtorEq, reduceIte, Nat.reduceAdd, Nat.reduceMul, Nat.reduceSub, Nat.reduceDiv, Nat.reduceMod, Nat.reduceEqDiff, Nat.reduceLeDiff, Nat.reduceLT, Nat.zero_le, Nat.lt_add_one, Nat.le_refl, Nat.sub_zero, Nat.zero_lt_succ, ge_iff_le, ji_m2, ji_m1, ji_0, ji_1, ji_2, ji_3, ji_4, ji_5, ji_6, ji_7, ji_8, ji_10, ji_12, ji_29, ji_30, ji_31, ji_40, ji_60, ji_70, ji_80, ji_81, ji_360, ji_512, ji_972, ji_1000000, ji_2147483639, jl_m1, jl_0, jl_1, rw_KI, rw_II, rw_RI, rw_LI, rw_AI, rw_JI, rw_OI, rw_KR, rw_IR, rw_RR, rw_LR, rw_AR, rw_JR, rw_OR, rw_KA, rw_IA, rw_RA, rw_LA, rw_AA, rw_JA, rw_OA, rw_KJ, rw_IJ, rw_RJ, rw_LJ, rw_AJ, rw_JJ, rw_OJ, rw_KO, rw_IO, rw_RO, rw_LO, rw_AO, rw_JO, rw_OO, rw_KAr, rw_IAr, rw_RAr, rw_LAr, rw_AAr, rw_JAr, rw_OAr, rw_KOr, rw_IOr, rw_ROr, rw_LOr, rw_AOr, rw_JOr, rw_OOr, rw_KN, rw_IN, rw_RN, rw_LN, rw_AN, rw_JN, rw_ON, rw_KY, rw_IY, rw_RY, rw_LY, rw_AY, rw_JY, rw_OY, hk]
  exact hQ
/-- a new interest at X -/
theorem new_int {a b c e f' g' : Int32} {t : Nat} (hX : zK h X = 0) : cNew (wI (wI (wI (wI (wI (wI (wI (wN h X 5) 320 X a) 321 X b) 322 X c) 323 X e) 324 X f') 325 X g') 326 X b) X (fun k => if k = 0 then a else if k = 1 then b else if k = 2 then b else if k = 3 then c else if k = 4 then g' else if k = 5 then e else f') ∧ ∀ P : Nat → Prop, AG P h (wI (wI (wI (wI (wI (wI (wI (wN h X 5) 320 X a) 321 X b) 322 X c) 323 X e) 324 X f') 325 X g') 326 X b) tg (u1 tg X t) := by
  refine ⟨⟨?_, ?_, ?_, ?_, ?_, ?_, ?_, ?_⟩, fun P => AG_new hX (fun y hy => ?_)⟩
  · show zK (wN h X 5) X = 5
    rw [rw_KN, if_pos rfl]
  · rw [wI_ne (by decide), wI_ne (by decide), wI_ne (by decide), wI_ne (by decide), wI_ne (by decide), wI_ne (by decide), wI_s]; rfl
  · rw [wI_ne (by decide), wI_ne (by decide), wI_ne (by decide), wI_ne (by decide), wI_ne (by decide), wI_s]; rfl
  · rw [wI_ne (by decide), wI_ne (by decide), wI_ne (by decide), wI_ne (by decide), wI_s]; rfl
  · rw [wI_ne (by decide), wI_ne (by decide), wI_ne (by decide), wI_s]; rfl
  · rw [wI_ne (by decide), wI_ne (by decide), wI_s]; rfl
  · rw [wI_ne (by decide), wI_s]; rfl
  · rw [wI_s]; rfl
  · have wn : ∀ (h : jd_H) (f : Nat) (x : Int32) (p : Nat), zI (wI h f X x) p y = zI h p y := fun h f x p => by rw [rw_II, if_neg (fun z => hy z.2)]
    refine ⟨⟨?_, rfl, if_neg hy⟩, fun f => ?_, fun f => ?_, rfl, rfl, rfl⟩
    · show zK (wN h X 5) y = _
      rw [rw_KN, if_neg hy]
    · rw [wn, wn, wn, wn, wn, wn, wn, rw_IN, if_neg hy]
    · show zR (wN h X 5) f y = _
      rw [rw_RN, if_neg hy]
theorem cNew_fr (c : cNew h X row) (x : AG P h h' tg tg') (hp : P (tg X)) : cNew h' X row := by
  have k0 : zK h X ≠ 0 := by rw [c.1]; decide
  unfold cNew at c ⊢
  simp only [AG_I x k0 hp, (x _ k0).1]
  exact c
theorem cVI_add (c : cVI h tg ad v n f) (hn : n ≤ 81) (x : cNew h X row) (tX : tg X = Tg v 3 n) (hL : vLS h' tg' (Tg v 1 0) (ad 1 0) (n + 1) (u1 (ad 3) n X)) (hG : AG (fun u => u ≠ Tg v 1 0) h h' tg tg') : cVI h' tg' (adX ad n X) v (n + 1) (fun k i => if i = n then row k else f k i) := by
  refine ⟨?_, fun i hi => ?_⟩
  · rw [show adX ad n X 1 0 = ad 1 0 from if_neg (fun z => by omega)]
    refine vLS_cg hL (fun i hi => ?_)
    unfold adX u1
    by_cases e : i = n
    · rw [if_pos ⟨rfl, e⟩, if_pos e]
    · rw [if_neg (fun z => e z.2), if_neg e]
  · by_cases e : i = n
    · subst e
      have x' := cNew_fr x hG (by rw [tX]; unfold Tg; omega)
      have k0 : zK h X ≠ 0 := by rw [x.1]; decide
      unfold cIn
      rw [show adX ad i X 3 i = X from if_pos ⟨rfl, rfl⟩]
      simp only [if_true]
      exact ⟨⟨x'.1, (AG_g hG k0).trans tX⟩, x'.2⟩
    · have := cIn_fr (c.2 i (by omega)) hG (by unfold Tg; omega)
      unfold cIn at this ⊢
      rw [show adX ad n X 3 i = ad 3 i from if_neg (fun z => e z.2)]
      simp only [if_neg e]
      exact this
set_option maxRecDepth 100000 in
theorem k_load {o w t go fr te : Int32} (c : cVoy h tg ad aj v po w0 q l) (cJ : cVJ h tg aj) (hl : l.length ≤ 511) (hE6 : (rep (nI q) po w0 l).1 6 = 0) (cX : cNew h X (vRow o w t go te)) (tX : tg X = Tg v 3 (cn (rep (nI q) po w0 l)))
    (hne : ¬ ((rep (nI q) po w0 l).1 5 ≠ 0 ∨ ¬ (0 ≤ o ∧ o ≤ 29) ∨ ¬ (1 ≤ w ∧ w ≤ 1000000) ∨ ¬ (1 ≤ t ∧ t ≤ w) ∨ ¬ ((rep (nI q) po w0 l).1 0 + 1 ≤ go ∧ go ≤ nI q - 1) ∨ ¬ (0 ≤ fr ∧ fr ≤ 1000000) ∨ ¬ (0 ≤ te ∧ te ≤ 2) ∨ (rep (nI q) po w0 l).1 2 = 40))
    (hQ1 : ∀ r s' h' tg' ad', vDo (nI q) po (rep (nI q) po w0 l) (ev7 0 o w t go fr te) = some (r, s') → cVoy h' tg' ad' aj v po w0 q (ev7 0 o w t go fr te :: l) → ad' 0 0 = ad 0 0 → cVJ h' tg' aj → AG (PV v) h h' tg tg' → Q (some (.int r)) h') : jd_WM g (d + 10) 26 [.ref (ad 0 0), .ref X, .int fr] h Q := by
  refine ⟨Nat.le_of_ble_eq_true rfl, ?_⟩; show jd_w g (d + 9) 26 Q 0 [some (.ref (ad 0 0)), some (.ref X), some (.int fr), none] [] h 5 2414
  obtain ⟨n, lo, na, p, hI, hJ⟩ := cVoy_IJ c
  obtain ⟨⟨hV, hO, hK⟩, c0, cI, cA, cE, cS, cW, cR⟩ := c
  generalize hs : rep (nI q) po w0 l = s at hI hJ c0 cI cA cR hE6 hne hQ1 tX
  have hn81 := IV_81 hI
  have hcn := IV_cn hI
  have hca := IV_ca hI
  have hna := hI.2.2.1.2
  have hs1 := hI.1.1
  rw [hcn] at cI tX
  rw [hca] at cA
  obtain ⟨⟨kV, tV⟩, ⟨r448, r449, r450, r451, r454⟩, ⟨i452, i453⟩, i455, i456, i457, i458, i459⟩ := id c0
  rw [fS_2] at i457
  have hlo : lo ≤ 39 := by
    have h1 := hI.2.1.1
    have h2 := hI.2.1.2
    by_cases e : lo = 40
    · exact absurd (by rw [h1, e]; rfl) (fun z => hne (Or.inr (Or.inr (Or.inr (Or.inr (Or.inr (Or.inr (Or.inr z))))))))
    · omega
  have hn79 : n ≤ 79 := by have := hI.1.2.2; omega
  have hvd0 : vDo (nI q) po s (ev7 0 o w t go fr te) = vLoad (nI q) po s o w t go fr te := vDo_0 hE6 rfl
  have tX0 : ∀ k, k ≠ 3 → ∀ i, i < 1000 → tg X ≠ Tg v k i := fun k hk i hi => by rw [tX]; unfold Tg; omega
  simp only [e26_0, e26_1, e26_2, o_iload, o_lload, o_aload, o_istore, o_lstore, o_astore, o_iinc, o_ipush, o_lpush, o_null, o_ibin, o_ineg, o_lbin, o_ldv, o_lneg, o_lcmp, o_i2l, o_l2i, o_dup, o_pop, o_dupx, o_dup2, o_ic, o_iz, o_nul, o_acmp, o_tsw, o_gI, o_gR, o_pI, o_pZ, o_pR, o_iald, o_bald, o_lald, o_aald, o_iast, o_bast, o_last, o_aast, o_alen, o_newa, o_new, o_mna, o_cast, o_calls, o_callv, o_calli, o_oinit, o_getC, o_refp, o_cpi, o_cpo, o_mmax, o_mmin, o_lmin, o_iret, o_zret, o_lret, o_aret, o_vret, jd_lo, jd_la, jd_nl, jd_pop, List.length_cons, List.length_nil, List.set_cons_zero, List.set_cons_succ, List.getElem?_cons_zero, List.getElem?_cons_succ, List.replicate_succ, List.replicate_zero, List.cons_append, List.nil_append, List.append_nil, Value.category, Option.toList, va_rf, true_implies, false_implies, false_and, and_false, and_true, true_and, and_self, true_or, or_true, false_or, or_false, not_true_eq_false, not_false_eq_true, forall_const, implies_true, if_true, if_false, reduceCtorEq, reduceIte, Nat.reduceAdd, Nat.reduceMul, Nat.reduceSub, Nat.reduceDiv, Nat.reduceMod, Nat.reduceEqDiff, Nat.reduceLeDiff, Nat.reduceLT, Nat.zero_le, Nat.lt_add_one, Nat.le_refl, Nat.sub_zero, Nat.zero_lt_succ, ge_iff_le, ji_m2, ji_m1, ji_0, ji_1, ji_2, ji_3, ji_4, ji_5, ji_6, ji_7, ji_8, ji_10, ji_12, ji_29, ji_30, ji_31, ji_40, ji_60, ji_70, ji_80, ji_81, ji_360, ji_512, ji_972, ji_1000000, ji_2147483639, jl_m1, jl_0, jl_1, kV]
  refine k_note (d := d) cE kV r450 hl (by decide) (fun h2 tg2 ad2 hd2 cE2 hG2 => ?_)
  have d16 : ∀ k i, k ≠ 16 → ad2 k i = ad k i := fun k i hk => hd2 k i (fun z => hk z.1)
  have c02 := cV0_fr c0 hG2 (by unfold Tg; omega)
  have cI2 := cVI_fr cI hG2 (by unfold Tg; omega) (fun i hi => by unfold Tg; omega)
  have cA2 := cVA_fr cA hG2 (by unfold Tg; omega) (fun a k _ _ _ => by unfold Tg; omega)
  have cS2 := cVS_fr cS hG2 (by unfold Tg; omega)
  have cJ2 := cVJ_fr cJ hG2 (by unfold Tg; omega)
  have X0 : zK h X ≠ 0 := by rw [cX.1]; decide
  have cX2 := cNew_fr cX hG2 (by rw [tX]; unfold Tg; omega)
  have tX2 : tg2 X = Tg v 3 n := (AG_g hG2 X0).trans tX
  have hG3 : AG (fun u => u ≠ Tg v 0 0) h2 (wI h2 457 (ad 0 0) (-1)) tg2 tg2 := AG_wI (fun z => z c02.1.2)
  have c03 := cV0_w (k := 2) (x := -1) c02 (by decide)
  have cI3 := cVI_fr cI2 hG3 (by unfold Tg; omega) (fun i hi => by unfold Tg; omega)
  have cA3 := cVA_fr cA2 hG3 (by unfold Tg; omega) (fun a k _ _ _ => by unfold Tg; omega)
  have cE3 := cVE_fr cE2 hG3 (by unfold Tg; omega) (fun i hi => by unfold Tg; omega)
  have cS3 := cVS_fr cS2 hG3 (by unfold Tg; omega)
  have cJ3 := cVJ_fr cJ2 hG3 (by unfold Tg; omega)
  have cX3 := cNew_fr cX2 hG3 (by rw [tX2]; unfold Tg; omega)
  have c03 : cV0 (wI h2 457 (ad 0 0) (-1)) tg2 ad aj v po q (u1 (fS q s) 2 (-1)) := c03
  generalize wI h2 457 (ad 0 0) (-1) = h3 at hG3 c03 cI3 cA3 cE3 cS3 cJ3 cX3
  simp only [e26_5, e26_6, e26_9, o_iload, o_lload, o_aload, o_istore, o_lstore, o_astore, o_iinc, o_ipush, o_lpush, o_null, o_ibin, o_ineg, o_lbin, o_ldv, o_lneg, o_lcmp, o_i2l, o_l2i, o_dup, o_pop, o_dupx, o_dup2, o_ic, o_iz, o_nul, o_acmp, o_tsw, o_gI, o_gR, o_pI, o_pZ, o_pR, o_iald, o_bald, o_lald, o_aald, o_iast, o_bast, o_last, o_aast, o_alen, o_newa, o_new, o_mna, o_cast, o_calls, o_callv, o_calli, o_oinit, o_getC, o_refp, o_cpi, o_cpo, o_mmax, o_mmin, o_lmin, o_iret, o_zret, o_lret, o_aret, o_vret, jd_lo, jd_la, jd_nl, jd_pop, List.length_cons, List.length_nil, List.set_cons_zero, List.set_cons_succ, List.getElem?_cons_zero, List.getElem?_cons_succ, List.replicate_succ, List.replicate_zero, List.cons_append, List.nil_append, List.append_nil, Value.category, Option.toList, va_rf, true_implies, false_implies, false_and, and_false, and_true, true_and, and_self, true_or, or_true, false_or, or_false, not_true_eq_false, not_false_eq_true, forall_const, implies_true, if_true, if_false, reduceCtorEq, reduceIte, Nat.reduceAdd, Nat.reduceMul, Nat.reduceSub, Nat.reduceDiv, Nat.reduceMod, Nat.reduceEqDiff, Nat.reduceLeDiff, Nat.reduceLT, Nat.zero_le, Nat.lt_add_one, Nat.le_refl, Nat.sub_zero, Nat.zero_lt_succ, ge_iff_le, ji_m2, ji_m1, ji_0, ji_1, ji_2, ji_3, ji_4, ji_5, ji_6, ji_7, ji_8, ji_10, ji_12, ji_29, ji_30, ji_31, ji_40, ji_60, ji_70, ji_80, ji_81, ji_360, ji_512, ji_972, ji_1000000, ji_2147483639, jl_m1, jl_0, jl_1, c03.1.1, c03.2.1.1, vLS_K cI3.1]
  refine k_lsize (d := d + 8) cI3.1 ?_
  simp only [e26_14, e26_15, e26_16, e26_19, e26_20, o_iload, o_lload, o_aload, o_istore, o_lstore, o_astore, o_iinc, o_ipush, o_lpush, o_null, o_ibin, o_ineg, o_lbin, o_ldv, o_lneg, o_lcmp, o_i2l, o_l2i, o_dup, o_pop, o_dupx, o_dup2, o_ic, o_iz, o_nul, o_acmp, o_tsw, o_gI, o_gR, o_pI, o_pZ, o_pR, o_iald, o_bald, o_lald, o_aald, o_iast, o_bast, o_last, o_aast, o_alen, o_newa, o_new, o_mna, o_cast, o_calls, o_callv, o_calli, o_oinit, o_getC, o_refp, o_cpi, o_cpo, o_mmax, o_mmin, o_lmin, o_iret, o_zret, o_lret, o_aret, o_vret, jd_lo, jd_la, jd_nl, jd_pop, List.length_cons, List.length_nil, List.set_cons_zero, List.set_cons_succ, List.getElem?_cons_zero, List.getElem?_cons_succ, List.replicate_succ, List.replicate_zero, List.cons_append, List.nil_append, List.append_nil, Value.category, Option.toList, va_rf, true_implies, false_implies, false_and, and_false, and_true, true_and, and_self, true_or, or_true, false_or, or_false, not_true_eq_false, not_false_eq_true, forall_const, implies_true, if_true, if_false, reduceCtorEq, reduceIte, Nat.reduceAdd, Nat.reduceMul, Nat.reduceSub, Nat.reduceDiv, Nat.reduceMod, Nat.reduceEqDiff, Nat.reduceLeDiff, Nat.reduceLT, Nat.zero_le, Nat.lt_add_one, Nat.le_refl, Nat.sub_zero, Nat.zero_lt_succ, ge_iff_le, ji_m2, ji_m1, ji_0, ji_1, ji_2, ji_3, ji_4, ji_5, ji_6, ji_7, ji_8, ji_10, ji_12, ji_29, ji_30, ji_31, ji_40, ji_60, ji_70, ji_80, ji_81, ji_360, ji_512, ji_972, ji_1000000, ji_2147483639, jl_m1, jl_0, jl_1, c03.1.1, c03.2.1.1, vLS_K cI3.1]
  refine k_ladd (d := d + 2) cI3.1 (by omega) (by rw [cX3.1]; decide) (by rw [cX3.1]; decide) (fun i hi => by rw [(cI3.2 i hi).1.1]; decide) (fun h4 tg4 hL4 hG4 => ?_)
  have c04 := cV0_fr c03 hG4 (by unfold Tg; omega)
  have cI4 := cVI_add cI3 hn81 cX3 tX2 hL4 hG4
  have cA4 := cVA_fr cA3 hG4 (by unfold Tg; omega) (fun a k _ _ _ => by unfold Tg; omega)
  have cE4 := cVE_fr cE3 hG4 (by unfold Tg; omega) (fun i hi => by unfold Tg; omega)
  have cS4 := cVS_fr cS3 hG4 (by unfold Tg; omega)
  have cJ4 := cVJ_fr cJ3 hG4 (by unfold Tg; omega)
  have cX4 := cNew_fr cX3 hG4 (by rw [tX2]; unfold Tg; omega)
  have i459' : zI h4 459 (ad 0 0) = s.1 2 := c04.2.2.2.2.2.2.2
  have f5 := cV0_w (k := 4) (x := s.1 2 + 1) c04 (by decide)
  have hG5 : AG (fun u => u ≠ Tg v 0 0) h4 (wI h4 459 (ad 0 0) (s.1 2 + 1)) tg4 tg4 := AG_wI (fun z => z c04.1.2)
  have cI5 := cVI_fr cI4 hG5 (by unfold Tg; omega) (fun i hi => by unfold Tg; omega)
  have cA5 := cVA_fr cA4 hG5 (by unfold Tg; omega) (fun a k _ _ _ => by unfold Tg; omega)
  have cE5 := cVE_fr cE4 hG5 (by unfold Tg; omega) (fun i hi => by unfold Tg; omega)
  have cS5 := cVS_fr cS4 hG5 (by unfold Tg; omega)
  have cJ5 := cVJ_fr cJ4 hG5 (by unfold Tg; omega)
  have X30 : zK h3 X ≠ 0 := by rw [cX3.1]; decide
  have tX4 : tg4 X = Tg v 3 n := (AG_g hG4 X30).trans tX2
  have cX5 := cNew_fr cX4 hG5 (by rw [tX4]; unfold Tg; omega)
  have f5 : cV0 (wI h4 459 (ad 0 0) (s.1 2 + 1)) tg4 ad aj v po q (u1 (u1 (fS q s) 2 (-1)) 4 (s.1 2 + 1)) := f5
  have k4V := c04.1.1
  have hz0 := (congrArg (fun z => vDo (nI q) po z (ev7 0 o w t go fr te)) hs).trans hvd0
  have dX : ∀ X' m k i, k ≠ 16 → k ≠ 3 → adX ad2 m X' k i = ad k i := fun X' m k i h1 h2 => (if_neg (fun z => h2 z.1)).trans (d16 k i h1)
  have hGx : AG (PV v) h (wI h4 459 (ad 0 0) (s.1 2 + 1)) tg tg4 := AG_t (AG_w hG2 (fun u hu => by unfold PV Tg at hu; unfold Tg; omega)) (AG_t (AG_w hG3 (fun u hu => by unfold PV Tg at hu; unfold Tg; omega)) (AG_t (AG_w hG4 (fun u hu => by unfold PV Tg at hu; unfold Tg; omega)) (AG_w hG5 (fun u hu => by unfold PV Tg at hu; unfold Tg; omega))))
  by_cases hfr : fr ≤ 0
  · simp only [e26_25, e26_26, e26_27, e26_28, e26_31, e26_32, e26_33, e26_36, e26_37, e26_69, e26_70, o_iload, o_lload, o_aload, o_istore, o_lstore, o_astore, o_iinc, o_ipush, o_lpush, o_null, o_ibin, o_ineg, o_lbin, o_ldv, o_lneg, o_lcmp, o_i2l, o_l2i, o_dup, o_pop, o_dupx, o_dup2, o_ic, o_iz, o_nul, o_acmp, o_tsw, o_gI, o_gR, o_pI, o_pZ, o_pR, o_iald, o_bald, o_lald, o_aald, o_iast, o_bast, o_last, o_aast, o_alen, o_newa, o_new, o_mna, o_cast, o_calls, o_callv, o_calli, o_oinit, o_getC, o_refp, o_cpi, o_cpo, o_mmax, o_mmin, o_lmin, o_iret, o_zret, o_lret, o_aret, o_vret, jd_lo, jd_la, jd_nl, jd_pop, List.length_cons, List.length_nil, List.set_cons_zero, List.set_cons_succ, List.getElem?_cons_zero, List.getElem?_cons_succ, List.replicate_succ, List.replicate_zero, List.cons_append, List.nil_append, List.append_nil, Value.category, Option.toList, va_rf, true_implies, false_implies, false_and, and_false, and_true, true_and, and_self, true_or, or_true, false_or, or_false, not_true_eq_false, not_false_eq_true, forall_const, implies_true, if_true, if_false, reduceCtorEq, reduceIte, Nat.reduceAdd, Nat.reduceMul, Nat.reduceSub, Nat.reduceDiv, Nat.reduceMod, Nat.reduceEqDiff, Nat.reduceLeDiff, Nat.reduceLT, Nat.zero_le, Nat.lt_add_one, Nat.le_refl, Nat.sub_zero, Nat.zero_lt_succ, ge_iff_le, ji_m2, ji_m1, ji_0, ji_1, ji_2, ji_3, ji_4, ji_5, ji_6, ji_7, ji_8, ji_10, ji_12, ji_29, ji_30, ji_31, ji_40, ji_60, ji_70, ji_80, ji_81, ji_360, ji_512, ji_972, ji_1000000, ji_2147483639, jl_m1, jl_0, jl_1, k4V, i459', hfr]
    have hv1 : vLoad (nI q) po s o w t go fr te = some (s.1 1, vComes (u1 (u1 s.1 2 (s.1 2 + 1)) 4 (-1), s.2) o w t go te) := by
      unfold vLoad
      rw [if_neg hne]
      show (if 0 < fr then _ else _) = _
      rw [if_neg (Int32.not_lt.mpr hfr)]
    have hvd := hvd0.trans hv1
    have hz := hz0.trans hv1
    have hcn1 : cn (u1 (u1 s.1 2 (s.1 2 + 1)) 4 (-1), s.2) = n := hcn
    have hcn2 : cn (vComes (u1 (u1 s.1 2 (s.1 2 + 1)) 4 (-1), s.2) o w t go te) = n + 1 := by
      show (s.1 1 + 1).toNatClampNeg = n + 1
      rw [hs1, jn_sc]
      exact jn_cl (show n + 1 < 82 by omega) (by decide)
    have cV : cVoy (wI h4 459 (ad 0 0) (s.1 2 + 1)) tg4 (adX ad2 n X) aj v po w0 q (ev7 0 o w t go fr te :: l) := by
      refine cVoy_mk hV hO hK ⟨0, by decide, rfl⟩ hz ?_ ?_ ?_ (cVE_cg (cVE_ad cE5 (if_neg (fun z => absurd z.1 (by decide))) (fun k _ => if_neg (fun z => absurd z.1 (by decide)))) (fun k hk => ?_)) ?_ (fun z => absurd z (show ¬ (0 : Int32) = 6 by decide)) (fun z => absurd hE6 z)
      · exact cV0_ad (cV0_cg f5 (fS_of rfl rfl rfl rfl rfl)) (fun k hk => dX X n k 0 (by omega) (by omega))
      · rw [hcn2]
        refine cVI_cg (cVI_ad cI5 ?_ (fun i _ => ?_)) (fun k i hk hi => ?_)
        · exact (if_neg (fun z => absurd z.1 (by decide))).trans ((d16 1 0 (by decide)).trans (if_neg (fun z => absurd z.1 (by decide))).symm)
        · unfold adX
          split
          · rfl
          · exact d16 3 i (by decide)
        · show (if i = cn _ then _ else _) = _
          rw [hcn1]
      · have : ca (vComes (u1 (u1 s.1 2 (s.1 2 + 1)) 4 (-1), s.2) o w t go te) = na := hca
        rw [this]
        exact cVA_ad cA5 (dX X n 4 0 (by decide) (by decide)) (fun a k _ _ _ => dX X n k a (by omega) (by omega))
      · by_cases e : k = l.length
        · rw [if_pos e]
          funext c
          rw [if_pos e, i457, hs]
          rfl
        · rw [if_neg e]
          funext c
          rw [if_neg e]
      · exact cVS_ad cS5 (fun k _ _ => dX X n k 0 (by omega) (by omega))
    have fin := hQ1 _ _ _ tg4 (adX ad2 n X) hvd cV (dX X n 0 0 (by decide) (by decide)) cJ5 hGx
    rw [hs1] at fin
    exact fin
  · have hfr0 : 0 < fr := Int32.not_le.mp hfr
    have i452' : zI h4 452 (ad 0 0) = po := c04.2.2.1.1
    have i323 : zI h4 323 X = go := cX4.2.2.2.2.1
    simp only [e26_25, e26_26, e26_27, e26_28, e26_31, e26_32, e26_33, e26_36, e26_37, e26_40, e26_41, e26_44, o_iload, o_lload, o_aload, o_istore, o_lstore, o_astore, o_iinc, o_ipush, o_lpush, o_null, o_ibin, o_ineg, o_lbin, o_ldv, o_lneg, o_lcmp, o_i2l, o_l2i, o_dup, o_pop, o_dupx, o_dup2, o_ic, o_iz, o_nul, o_acmp, o_tsw, o_gI, o_gR, o_pI, o_pZ, o_pR, o_iald, o_bald, o_lald, o_aald, o_iast, o_bast, o_last, o_aast, o_alen, o_newa, o_new, o_mna, o_cast, o_calls, o_callv, o_calli, o_oinit, o_getC, o_refp, o_cpi, o_cpo, o_mmax, o_mmin, o_lmin, o_iret, o_zret, o_lret, o_aret, o_vret, jd_lo, jd_la, jd_nl, jd_pop, List.length_cons, List.length_nil, List.set_cons_zero, List.set_cons_succ, List.getElem?_cons_zero, List.getElem?_cons_succ, List.replicate_succ, List.replicate_zero, List.cons_append, List.nil_append, List.append_nil, Value.category, Option.toList, va_rf, true_implies, false_implies, false_and, and_false, and_true, true_and, and_self, true_or, or_true, false_or, or_false, not_true_eq_false, not_false_eq_true, forall_const, implies_true, if_true, if_false, reduceCtorEq, reduceIte, Nat.reduceAdd, Nat.reduceMul, Nat.reduceSub, Nat.reduceDiv, Nat.reduceMod, Nat.reduceEqDiff, Nat.reduceLeDiff, Nat.reduceLT, Nat.zero_le, Nat.lt_add_one, Nat.le_refl, Nat.sub_zero, Nat.zero_lt_succ, ge_iff_le, ji_m2, ji_m1, ji_0, ji_1, ji_2, ji_3, ji_4, ji_5, ji_6, ji_7, ji_8, ji_10, ji_12, ji_29, ji_30, ji_31, ji_40, ji_60, ji_70, ji_80, ji_81, ji_360, ji_512, ji_972, ji_1000000, ji_2147483639, jl_m1, jl_0, jl_1, rw_KI, rw_II, rw_RI, rw_LI, rw_AI, rw_JI, rw_OI, rw_KR, rw_IR, rw_RR, rw_LR, rw_AR, rw_JR, rw_OR, rw_KA, rw_IA, rw_RA, rw_LA, rw_AA, rw_JA, rw_OA, rw_KJ, rw_IJ, rw_RJ, rw_LJ, rw_AJ, rw_JJ, rw_OJ, rw_KO, rw_IO, rw_RO, rw_LO, rw_AO, rw_JO, rw_OO, rw_KAr, rw_IAr, rw_RAr, rw_LAr, rw_AAr, rw_JAr, rw_OAr, rw_KOr, rw_IOr, rw_ROr, rw_LOr, rw_AOr, rw_JOr, rw_OOr, rw_KN, rw_IN, rw_RN, rw_LN, rw_AN, rw_JN, rw_ON, rw_KY, rw_IY, rw_RY, rw_LY, rw_AY, rw_JY, rw_OY, k4V, c04.2.1.1, i459', hfr]
    generalize h5e : wI h4 459 (ad 0 0) (s.1 2 + 1) = h5 at hG5 f5 cI5 cA5 cE5 cS5 cJ5 cX5 hGx
    intro Y hY
    have hY : zK h5 Y = 0 := by rw [← h5e]; exact hY
    have kV5 := f5.1.1
    have i452' : zI h5 452 (ad 0 0) = po := f5.2.2.1.1
    have i323 : zI h5 323 X = go := cX5.2.2.2.2.1
    have hVY : ¬ ad 0 0 = Y := fun z => by rw [z, hY] at kV5; exact absurd kV5 (by decide)
    have hXY : ¬ X = Y := fun z => by have := cX5.1; rw [z, hY] at this; exact absurd this (by decide)
    simp only [e26_47, e26_48, e26_49, e26_52, e26_53, e26_54, e26_55, e26_58, e26_59, e26_60, o_iload, o_lload, o_aload, o_istore, o_lstore, o_astore, o_iinc, o_ipush, o_lpush, o_null, o_ibin, o_ineg, o_lbin, o_ldv, o_lneg, o_lcmp, o_i2l, o_l2i, o_dup, o_pop, o_dupx, o_dup2, o_ic, o_iz, o_nul, o_acmp, o_tsw, o_gI, o_gR, o_pI, o_pZ, o_pR, o_iald, o_bald, o_lald, o_aald, o_iast, o_bast, o_last, o_aast, o_alen, o_newa, o_new, o_mna, o_cast, o_calls, o_callv, o_calli, o_oinit, o_getC, o_refp, o_cpi, o_cpo, o_mmax, o_mmin, o_lmin, o_iret, o_zret, o_lret, o_aret, o_vret, jd_lo, jd_la, jd_nl, jd_pop, List.length_cons, List.length_nil, List.set_cons_zero, List.set_cons_succ, List.getElem?_cons_zero, List.getElem?_cons_succ, List.replicate_succ, List.replicate_zero, List.cons_append, List.nil_append, List.append_nil, Value.category, Option.toList, va_rf, true_implies, false_implies, false_and, and_false, and_true, true_and, and_self, true_or, or_true, false_or, or_false, not_true_eq_false, not_false_eq_true, forall_const, implies_true, if_true, if_false, reduceCtorEq, reduceIte, Nat.reduceAdd, Nat.reduceMul, Nat.reduceSub, Nat.reduceDiv, Nat.reduceMod, Nat.reduceEqDiff, Nat.reduceLeDiff, Nat.reduceLT, Nat.zero_le, Nat.lt_add_one, Nat.le_refl, Nat.sub_zero, Nat.zero_lt_succ, ge_iff_le, ji_m2, ji_m1, ji_0, ji_1, ji_2, ji_3, ji_4, ji_5, ji_6, ji_7, ji_8, ji_10, ji_12, ji_29, ji_30, ji_31, ji_40, ji_60, ji_70, ji_80, ji_81, ji_360, ji_512, ji_972, ji_1000000, ji_2147483639, jl_m1, jl_0, jl_1, rw_KI, rw_II, rw_RI, rw_LI, rw_AI, rw_JI, rw_OI, rw_KR, rw_IR, rw_RR, rw_LR, rw_AR, rw_JR, rw_OR, rw_KA, rw_IA, rw_RA, rw_LA, rw_AA, rw_JA, rw_OA, rw_KJ, rw_IJ, rw_RJ, rw_LJ, rw_AJ, rw_JJ, rw_OJ, rw_KO, rw_IO, rw_RO, rw_LO, rw_AO, rw_JO, rw_OO, rw_KAr, rw_IAr, rw_RAr, rw_LAr, rw_AAr, rw_JAr, rw_OAr, rw_KOr, rw_IOr, rw_ROr, rw_LOr, rw_AOr, rw_JOr, rw_OOr, rw_KN, rw_IN, rw_RN, rw_LN, rw_AN, rw_JN, rw_ON, rw_KY, rw_IY, rw_RY, rw_LY, rw_AY, rw_JY, rw_OY, kV5, cX5.1, hVY, hXY, i452', i323]
    refine k_iinit (d := d + 7) (by rw [rw_KN, if_pos rfl]) ?_
    obtain ⟨cY, hG6⟩ := new_int (h := h5) (tg := tg4) (t := Tg v 3 (n + 1)) (a := po) (b := fr) (c := fr) (e := go) (f' := nI n) (g' := 0) hY
    generalize wI (wI (wI (wI (wI (wI (wI (wN h5 Y 5) 320 Y po) 321 Y fr) 322 Y fr) 323 Y go) 324 Y (nI n)) 325 Y 0) 326 Y fr = h6 at cY hG6
    have c06 := cV0_fr f5 (hG6 (fun _ => True)) trivial
    have cI6 := cVI_fr cI5 (hG6 (fun _ => True)) trivial (fun _ _ => trivial)
    have cA6 := cVA_fr cA5 (hG6 (fun _ => True)) trivial (fun _ _ _ _ _ => trivial)
    have cE6 := cVE_fr cE5 (hG6 (fun _ => True)) trivial (fun _ _ => trivial)
    have cS6 := cVS_fr cS5 (hG6 (fun _ => True)) trivial
    have cJ6 := cVJ_fr cJ5 (hG6 (fun _ => True)) trivial
    have tY : u1 tg4 Y (Tg v 3 (n + 1)) Y = Tg v 3 (n + 1) := if_pos rfl
    have e1 : adX ad n X 1 0 = ad 1 0 := if_neg (fun z => absurd z.1 (by decide))
    have cL6 : vLS h6 (u1 tg4 Y (Tg v 3 (n + 1))) (Tg v 1 0) (ad 1 0) (n + 1) (adX ad n X 3) := by rw [← e1]; exact cI6.1
    simp only [e26_63, o_iload, o_lload, o_aload, o_istore, o_lstore, o_astore, o_iinc, o_ipush, o_lpush, o_null, o_ibin, o_ineg, o_lbin, o_ldv, o_lneg, o_lcmp, o_i2l, o_l2i, o_dup, o_pop, o_dupx, o_dup2, o_ic, o_iz, o_nul, o_acmp, o_tsw, o_gI, o_gR, o_pI, o_pZ, o_pR, o_iald, o_bald, o_lald, o_aald, o_iast, o_bast, o_last, o_aast, o_alen, o_newa, o_new, o_mna, o_cast, o_calls, o_callv, o_calli, o_oinit, o_getC, o_refp, o_cpi, o_cpo, o_mmax, o_mmin, o_lmin, o_iret, o_zret, o_lret, o_aret, o_vret, jd_lo, jd_la, jd_nl, jd_pop, List.length_cons, List.length_nil, List.set_cons_zero, List.set_cons_succ, List.getElem?_cons_zero, List.getElem?_cons_succ, List.replicate_succ, List.replicate_zero, List.cons_append, List.nil_append, List.append_nil, Value.category, Option.toList, va_rf, true_implies, false_implies, false_and, and_false, and_true, true_and, and_self, true_or, or_true, false_or, or_false, not_true_eq_false, not_false_eq_true, forall_const, implies_true, if_true, if_false, reduceCtorEq, reduceIte, Nat.reduceAdd, Nat.reduceMul, Nat.reduceSub, Nat.reduceDiv, Nat.reduceMod, Nat.reduceEqDiff, Nat.reduceLeDiff, Nat.reduceLT, Nat.zero_le, Nat.lt_add_one, Nat.le_refl, Nat.sub_zero, Nat.zero_lt_succ, ge_iff_le, ji_m2, ji_m1, ji_0, ji_1, ji_2, ji_3, ji_4, ji_5, ji_6, ji_7, ji_8, ji_10, ji_12, ji_29, ji_30, ji_31, ji_40, ji_60, ji_70, ji_80, ji_81, ji_360, ji_512, ji_972, ji_1000000, ji_2147483639, jl_m1, jl_0, jl_1, vLS_K cL6]
    refine k_ladd (d := d + 2) cL6 (by omega) (by rw [cY.1]; decide) (by rw [cY.1]; decide) (fun i hi => by rw [(cI6.2 i hi).1.1]; decide) (fun h7 tg7 hL7 hG7 => ?_)
    have c07 := cV0_fr c06 hG7 (by unfold Tg; omega)
    have cI7 := cVI_add cI6 (by omega) cY tY (by rw [e1]; exact hL7) hG7
    have cA7 := cVA_fr cA6 hG7 (by unfold Tg; omega) (fun a k _ _ _ => by unfold Tg; omega)
    have cE7 := cVE_fr cE6 hG7 (by unfold Tg; omega) (fun i hi => by unfold Tg; omega)
    have cS7 := cVS_fr cS6 hG7 (by unfold Tg; omega)
    have cJ7 := cVJ_fr cJ6 hG7 (by unfold Tg; omega)
    simp only [e26_68, e26_69, e26_70, o_iload, o_lload, o_aload, o_istore, o_lstore, o_astore, o_iinc, o_ipush, o_lpush, o_null, o_ibin, o_ineg, o_lbin, o_ldv, o_lneg, o_lcmp, o_i2l, o_l2i, o_dup, o_pop, o_dupx, o_dup2, o_ic, o_iz, o_nul, o_acmp, o_tsw, o_gI, o_gR, o_pI, o_pZ, o_pR, o_iald, o_bald, o_lald, o_aald, o_iast, o_bast, o_last, o_aast, o_alen, o_newa, o_new, o_mna, o_cast, o_calls, o_callv, o_calli, o_oinit, o_getC, o_refp, o_cpi, o_cpo, o_mmax, o_mmin, o_lmin, o_iret, o_zret, o_lret, o_aret, o_vret, jd_lo, jd_la, jd_nl, jd_pop, List.length_cons, List.length_nil, List.set_cons_zero, List.set_cons_succ, List.getElem?_cons_zero, List.getElem?_cons_succ, List.replicate_succ, List.replicate_zero, List.cons_append, List.nil_append, List.append_nil, Value.category, Option.toList, va_rf, true_implies, false_implies, false_and, and_false, and_true, true_and, and_self, true_or, or_true, false_or, or_false, not_true_eq_false, not_false_eq_true, forall_const, implies_true, if_true, if_false, reduceCtorEq, reduceIte, Nat.reduceAdd, Nat.reduceMul, Nat.reduceSub, Nat.reduceDiv, Nat.reduceMod, Nat.reduceEqDiff, Nat.reduceLeDiff, Nat.reduceLT, Nat.zero_le, Nat.lt_add_one, Nat.le_refl, Nat.sub_zero, Nat.zero_lt_succ, ge_iff_le, ji_m2, ji_m1, ji_0, ji_1, ji_2, ji_3, ji_4, ji_5, ji_6, ji_7, ji_8, ji_10, ji_12, ji_29, ji_30, ji_31, ji_40, ji_60, ji_70, ji_80, ji_81, ji_360, ji_512, ji_972, ji_1000000, ji_2147483639, jl_m1, jl_0, jl_1]
    have hv1 : vLoad (nI q) po s o w t go fr te = some (s.1 1, ((vComes (vComes (u1 (u1 s.1 2 (s.1 2 + 1)) 4 (-1), s.2) o w t go te) po fr fr go 0).1, u2 (u2 (vComes (vComes (u1 (u1 s.1 2 (s.1 2 + 1)) 4 (-1), s.2) o w t go te) po fr fr go 0).2.1 6 (n + 1) (nI n)) 7 n (nI (n + 1)), (vComes (vComes (u1 (u1 s.1 2 (s.1 2 + 1)) 4 (-1), s.2) o w t go te) po fr fr go 0).2.2)) := by
      unfold vLoad
      rw [if_neg hne]
      show (if 0 < fr then _ else _) = _
      rw [if_pos hfr0, hcn, hs1, jn_sc]
    have hvd := hvd0.trans hv1
    have hz := hz0.trans hv1
    have hcn1 : cn (u1 (u1 s.1 2 (s.1 2 + 1)) 4 (-1), s.2) = n := hcn
    have hcn2 : cn (vComes (u1 (u1 s.1 2 (s.1 2 + 1)) 4 (-1), s.2) o w t go te) = n + 1 := by
      show (s.1 1 + 1).toNatClampNeg = n + 1
      rw [hs1, jn_sc]
      exact jn_cl (show n + 1 < 82 by omega) (by decide)
    have hcn3 : cn ((vComes (vComes (u1 (u1 s.1 2 (s.1 2 + 1)) 4 (-1), s.2) o w t go te) po fr fr go 0).1, u2 (u2 (vComes (vComes (u1 (u1 s.1 2 (s.1 2 + 1)) 4 (-1), s.2) o w t go te) po fr fr go 0).2.1 6 (n + 1) (nI n)) 7 n (nI (n + 1)), (vComes (vComes (u1 (u1 s.1 2 (s.1 2 + 1)) 4 (-1), s.2) o w t go te) po fr fr go 0).2.2) = n + 2 := by
      show (s.1 1 + 1 + 1).toNatClampNeg = n + 2
      rw [hs1, jn_sc, jn_sc]
      exact jn_cl (show n + 1 + 1 < 82 by omega) (by decide)
    have dY : ∀ k i, k ≠ 16 → k ≠ 3 → adX (adX ad2 n X) (n + 1) Y k i = ad k i := fun k i h1 h2 => (if_neg (fun z => h2 z.1)).trans (dX X n k i h1 h2)
    have cV : cVoy h7 tg7 (adX (adX ad2 n X) (n + 1) Y) aj v po w0 q (ev7 0 o w t go fr te :: l) := by
      refine cVoy_mk hV hO hK ⟨0, by decide, rfl⟩ hz ?_ ?_ ?_ (cVE_cg (cVE_ad cE7 ?_ (fun k _ => ?_)) (fun k hk => ?_)) ?_ (fun z => absurd z (show ¬ (0 : Int32) = 6 by decide)) (fun z => absurd hE6 z)
      · exact cV0_ad (cV0_cg c07 (fS_of rfl rfl rfl rfl rfl)) (fun k hk => dY k 0 (by omega) (by omega))
      · rw [hcn3]
        refine cVI_cg (cVI_ad cI7 ?_ (fun i _ => ?_)) (fun k i hk hi => ?_)
        · exact (dY 1 0 (by decide) (by decide)).trans ((if_neg (fun z => absurd z.1 (by decide))).trans (if_neg (fun z => absurd z.1 (by decide)))).symm
        · unfold adX
          split
          · rfl
          · split
            · rfl
            · exact d16 3 i (by decide)
        · show u2 (u2 (fun k i => if i = cn (vComes (u1 (u1 s.1 2 (s.1 2 + 1)) 4 (-1), s.2) o w t go te) then vRow po fr fr go 0 k else if i = cn (u1 (u1 s.1 2 (s.1 2 + 1)) 4 (-1), s.2) then vRow o w t go te k else s.2.1 k i) 6 (n + 1) (nI n)) 7 n (nI (n + 1)) k i = _
          rw [hcn1, hcn2]
          unfold u2
          rw [if_neg (fun z => by omega)]
          by_cases e1 : i = n + 1
          · rw [if_pos e1]
            subst e1
            have hk' : k = 0 ∨ k = 1 ∨ k = 2 ∨ k = 3 ∨ k = 4 ∨ k = 5 ∨ k = 6 := by omega
            rcases hk' with rfl | rfl | rfl | rfl | rfl | rfl | rfl
            · rw [if_neg (fun z => absurd z.1 (by decide))]; exact if_pos rfl
            · rw [if_neg (fun z => absurd z.1 (by decide))]; exact if_pos rfl
            · rw [if_neg (fun z => absurd z.1 (by decide))]; exact if_pos rfl
            · rw [if_neg (fun z => absurd z.1 (by decide))]; exact if_pos rfl
            · rw [if_neg (fun z => absurd z.1 (by decide))]; exact if_pos rfl
            · rw [if_neg (fun z => absurd z.1 (by decide))]; exact if_pos rfl
            · rw [if_pos ⟨rfl, rfl⟩]; rfl
          · rw [if_neg (fun z => e1 z.2), if_neg e1]; exact if_neg e1
      · have : ca ((vComes (vComes (u1 (u1 s.1 2 (s.1 2 + 1)) 4 (-1), s.2) o w t go te) po fr fr go 0).1, u2 (u2 (vComes (vComes (u1 (u1 s.1 2 (s.1 2 + 1)) 4 (-1), s.2) o w t go te) po fr fr go 0).2.1 6 (n + 1) (nI n)) 7 n (nI (n + 1)), (vComes (vComes (u1 (u1 s.1 2 (s.1 2 + 1)) 4 (-1), s.2) o w t go te) po fr fr go 0).2.2) = na := hca
        rw [this]
        exact cVA_ad cA7 (dY 4 0 (by decide) (by decide)) (fun a k _ _ _ => dY k a (by omega) (by omega))
      · exact (if_neg (fun z => absurd z.1 (by decide))).trans (if_neg (fun z => absurd z.1 (by decide)))
      · exact (if_neg (fun z => absurd z.1 (by decide))).trans (if_neg (fun z => absurd z.1 (by decide)))
      · by_cases e : k = l.length
        · rw [if_pos e]
          funext c
          rw [if_pos e, i457, hs]
          rfl
        · rw [if_neg e]
          funext c
          rw [if_neg e]
      · exact cVS_ad cS7 (fun k _ _ => dY k 0 (by omega) (by omega))
    have fin := hQ1 _ _ h7 tg7 _ hvd cV (dY 0 0 (by decide) (by decide)) cJ7 (AG_t hGx (AG_t (hG6 _) (AG_w hG7 (fun u hu => by unfold PV Tg at hu; unfold Tg; omega))))
    rw [hs1] at fin
    exact fin
end
