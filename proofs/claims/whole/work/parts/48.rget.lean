/-! what the reference answers of interests, acts, shares -/
def si (f : Nat → Int32) : Nat → Int32
  | 0 => 0
  | n + 1 => si f n + f n
/-- x is a number below n -/
abbrev isN (n : Nat) (x : Int32) : Prop := 0 ≤ x ∧ x ≤ nI n - 1
theorem isN_of {n j : Nat} {x : Int32} (hn : n < 2147483648) (hj : j < n) (hx : x = nI j) : isN n x ∧ nn x = j := ⟨(jn_ix hn).mpr ⟨j, hj, hx⟩, by rw [hx]; exact nn_I (by omega)⟩
theorem isN_no {n : Nat} {x : Int32} (hn : n < 2147483648) (h : ∀ j, j < n → ¬ x = nI j) : ¬ isN n x := fun z => by
  obtain ⟨j, hj, e⟩ := (jn_ix hn).mp z
  exact h j hj e
theorem isN_e {n : Nat} {x : Int32} (hn : n < 2147483648) (h : isN n x) : nn x < n ∧ x = nI (nn x) := by
  obtain ⟨j, hj, e⟩ := (jn_ix hn).mp h
  rw [e, nn_I (by omega)]
  exact ⟨hj, rfl⟩
def tInt (s : VS) (i : Nat) (w : Int32) : Int32 :=
  if w = 0 then s.2.1 0 i else if w = 1 then s.2.1 1 i else if w = 2 then s.2.1 2 i else if w = 3 then s.2.1 8 i else if w = 4 then s.2.1 5 i else if w = 5 then s.2.1 6 i else if w = 6 then s.2.1 4 i else if w = 7 then s.2.1 3 i else if w = 8 then (if s.1 6 = 0 then -1 else nI (hs s (-1) (ca s) i)) else -1
def tShare (s : VS) (a i : Nat) (w : Int32) : Int32 :=
  if w = 0 then s.2.2.1 0 a i else if w = 1 then s.2.2.1 1 a i else if w = 2 then s.2.2.1 2 a i else if s.1 6 = 0 then -1 else if w = 3 then nI (aPart s (-1) (hA s (-1) a) a i) else if w = 4 then nI (aBo s (-1) (hA s (-1) a) a i) else -1
def tSum (s : VS) (a : Nat) (w : Int32) : Int32 :=
  if w = 0 then si (s.2.2.2 a) 30 else if w = 1 then si (s.2.2.1 2 a) 81 else if s.1 6 = 0 then -1 else if w = 2 then nI (aEx s (-1) (hA s (-1) a) a) else if w = 3 then nI (aSu s (-1) (hA s (-1) a) a) else if w = 4 then nI (sm (aPart s (-1) (hA s (-1) a) a) 81) else -1
section
variable {g d m W : Nat} {ma : Nat → Nat} {h h1 : jd_H} {Q : jd_Q} {tg : Nat → Nat} {po w0 : Nat → Int32} {qq rw : Nat → Nat} {El : Nat → List Ev} {x : Int32} {v : Nat}
theorem BX_AG (q : MS h m ma) (q2 : tg m = 56 ∧ ∀ k, us k → tg (ma k) = 56 ∧ ma k ≠ m) (x : BX m ma h h1) : AG (fun t => t ≠ 56) h h1 tg tg := fun a ha => by
  refine ⟨by rw [x.1], by rw [x.2.2.1], rfl, fun hp => ⟨fun f => x.2.2.2.2.1 f a (fun z => ?_), fun f => by rw [x.2.1], x.2.2.2.2.2.1 a (fun k h1 h2 z => ?_), x.2.2.2.2.2.2 a (fun k hk z => ?_), by rw [x.2.2.2.1]⟩⟩
  · exact absurd q2.1 (by rw [← z.2]; exact hp)
  · exact absurd (q2.2 k (by unfold us; omega)).1 (by rw [← z]; exact hp)
  · exact absurd (q2.2 k (by unfold us; omega)).1 (by rw [← z]; exact hp)
theorem BX_RE {ou : Int32} (q : RE h tg m ma W po w0 qq El rw) (x : BX m ma h h1) (hv : v < W) (hat : zI h 582 m = nI v) (hR : RM h m ma (sv po w0 qq El v)) (hD : AD h1 m ma (sv po w0 qq El v) ou) : RE h1 tg m ma W po w0 qq El rw := by
  obtain ⟨q1, q2, q3, q4, q5, q6⟩ := q
  have hk : ∀ k, k ≤ 26 → zA h1 (ma k) = zA h (ma k) := fun k hk => x.2.2.2.2.2.1 _ (fun j h1 h2 z => by rw [MS_inj q1] at z; omega)
  refine ⟨BX_MS x q1, q2, ⟨q3.1, ?_⟩, fun v hv => ?_, fun v hv => ?_, Or.inr ⟨v, hv, ?_, BX_RM x q1 hR, Or.inr ⟨ou, hD⟩⟩⟩
  · rw [x.2.2.2.2.1 581 m (fun z => by omega)]; exact q3.2
  · obtain ⟨a1, a2, a3, a4, a5, a6, a7⟩ := q4 v hv
    refine ⟨by rw [x.2.2.2.1]; exact a1, a2, a3, a4, ?_, by rw [hk 1 (by decide)]; exact a6, a7⟩
    unfold ER
    rw [x.1, x.2.2.1, x.2.2.2.2.2.1 (rw v) (fun k h1 h2 => a2 k (by unfold us; omega))]
    exact a5
  · rw [hk 2 (by decide), hk 3 (by decide), hk 4 (by decide)]
    exact q5 v hv
  · rw [x.2.2.2.2.1 582 m (fun z => by omega)]; exact hat
/-- of the voyage at which the reference is: it is adjusted, or not -/
theorem RE_AD (q : RE h tg m ma W po w0 qq El rw) (hv : v < W) (hat : zI h 582 m = nI v) : zI h 616 m = -2 ∨ ∃ ou, AD h m ma (sv po w0 qq El v) ou := by
  obtain ⟨q1, q2, q3, q4, q5, q6⟩ := q
  rcases q6 with z | ⟨v', hv', z, -, hA⟩
  · rw [hat] at z; exact absurd z (jm1 (by omega))
  · rw [hat] at z
    have := (nI_eq (by omega) (by omega)).mp z
    subst this
    exact hA
theorem k_adjE {ou : Int32} (hE : RE h tg m ma W po w0 qq El rw) (hv : v < W) (hat : zI h 582 m = nI v) (hR : RM h m ma (sv po w0 qq El v)) (hou : ¬ ou = -2)
    (hQ : ∀ h', RE h' tg m ma W po w0 qq El rw → AD h' m ma (sv po w0 qq El v) ou → AG (fun t => t ≠ 56) h h' tg tg → Q none h') : jd_WM g (d + 2) 103 [.ref m, .int ou] h Q := by
  obtain ⟨n, lo, na, p, hI, hJ⟩ := RE_IJ hE hv
  refine k_radjust hE.1 hR hI hJ (fun z => ?_) (fun h1 hD1 hX1 => ?_)
  · rcases RE_AD hE hv hat with w | ⟨ou', w⟩
    · rw [w] at z; exact absurd z.symm hou
    · have : ou' = ou := w.1.symm.trans z
      subst this
      exact hQ h hE w AG_r
  · exact hQ h1 (BX_RE hE (BX_A hX1) hv hat hR hD1) hD1 (BX_AG hE.1 hE.2.1 (BX_A hX1))
def qInt (W : Nat) (po w0 : Nat → Int32) (qq : Nat → Nat) (El : Nat → List Ev) (x i w : Int32) : Int32 :=
  if isN W x then (if isN (cn (sv po w0 qq El (nn x))) i then tInt (sv po w0 qq El (nn x)) (nn i) w else -1) else -1
set_option maxRecDepth 100000 in
theorem k_mint {i w : Int32} (hE : RE h tg m ma W po w0 qq El rw) (hlen : ∀ v, (El v).length ≤ 511)
    (hQ : ∀ h', RE h' tg m ma W po w0 qq El rw → AG (fun t => t ≠ 56) h h' tg tg → Q (some (.int (qInt W po w0 qq El x i w))) h') :
    jd_WM g (d + 6) 108 [.ref m, .int x, .int i, .int w] h Q := by
  refine ⟨Nat.le_of_ble_eq_true rfl, ?_⟩; show jd_w g (d + 5) 108 Q 0 [some (.ref m), some (.int x), some (.int i), some (.int w)] [] h 0 0
  have h10 : ¬ (1 : Int32) = 0 := by decide
  have hW := hE.2.2.1.1
  simp only [e108_0, e108_1, e108_2, o_iload, o_lload, o_aload, o_istore, o_lstore, o_astore, o_iinc, o_ipush, o_lpush, o_null, o_ibin, o_ineg, o_lbin, o_ldv, o_lneg, o_lcmp, o_i2l, o_l2i, o_dup, o_pop, o_dupx, o_dup2, o_ic, o_iz, o_nul, o_acmp, o_tsw, o_gI, o_gR, o_pI, o_pZ, o_pR, o_iald, o_bald, o_lald, o_aald, o_iast, o_bast, o_last, o_aast, o_alen, o_newa, o_new, o_mna, o_cast, o_calls, o_callv, o_calli, o_oinit, o_getC, o_refp, o_cpi, o_cpo, o_mmax, o_mmin, o_lmin, o_iret, o_zret, o_lret, o_aret, o_vret, jd_lo, jd_la, jd_nl, jd_pop, List.length_cons, List.length_nil, List.set_cons_zero, List.set_cons_succ, List.getElem?_cons_zero, List.getElem?_cons_succ, List.replicate_succ, List.replicate_zero, List.cons_append, List.nil_append, List.append_nil, Value.category, Option.toList, va_rf, true_implies, false_implies, false_and, and_false, and_true, true_and, and_self, true_or, or_true, false_or, or_false, not_true_eq_false, not_false_eq_true, forall_const, implies_true, if_true, if_false, reduceCtorEq, reduceIte, Nat.reduceAdd, Nat.reduceMul, Nat.reduceSub, Nat.reduceDiv, Nat.reduceMod, Nat.reduceEqDiff, Nat.reduceLeDiff, Nat.reduceLT, Nat.zero_le, Nat.lt_add_one, Nat.le_refl, Nat.sub_zero, Nat.zero_lt_succ, ge_iff_le, ji_m2, ji_m1, ji_0, ji_1, ji_2, ji_3, ji_4, ji_5, ji_6, ji_7, ji_8, ji_10, ji_12, ji_29, ji_30, ji_31, ji_40, ji_60, ji_70, ji_80, ji_81, ji_360, ji_512, ji_972, ji_1000000, ji_2147483639, jl_m1, jl_0, jl_1, MS_K hE.1]
  refine k_isV (d := d + 3) hE (fun v hv hx => ?_) (fun hx => ?_)
  · subst hx
    simp only [e108_5, e108_10, e108_11, e108_12, o_iload, o_lload, o_aload, o_istore, o_lstore, o_astore, o_iinc, o_ipush, o_lpush, o_null, o_ibin, o_ineg, o_lbin, o_ldv, o_lneg, o_lcmp, o_i2l, o_l2i, o_dup, o_pop, o_dupx, o_dup2, o_ic, o_iz, o_nul, o_acmp, o_tsw, o_gI, o_gR, o_pI, o_pZ, o_pR, o_iald, o_bald, o_lald, o_aald, o_iast, o_bast, o_last, o_aast, o_alen, o_newa, o_new, o_mna, o_cast, o_calls, o_callv, o_calli, o_oinit, o_getC, o_refp, o_cpi, o_cpo, o_mmax, o_mmin, o_lmin, o_iret, o_zret, o_lret, o_aret, o_vret, jd_lo, jd_la, jd_nl, jd_pop, List.length_cons, List.length_nil, List.set_cons_zero, List.set_cons_succ, List.getElem?_cons_zero, List.getElem?_cons_succ, List.replicate_succ, List.replicate_zero, List.cons_append, List.nil_append, List.append_nil, Value.category, Option.toList, va_rf, true_implies, false_implies, false_and, and_false, and_true, true_and, and_self, true_or, or_true, false_or, or_false, not_true_eq_false, not_false_eq_true, forall_const, implies_true, if_true, if_false, reduceCtorEq, reduceIte, Nat.reduceAdd, Nat.reduceMul, Nat.reduceSub, Nat.reduceDiv, Nat.reduceMod, Nat.reduceEqDiff, Nat.reduceLeDiff, Nat.reduceLT, Nat.zero_le, Nat.lt_add_one, Nat.le_refl, Nat.sub_zero, Nat.zero_lt_succ, ge_iff_le, ji_m2, ji_m1, ji_0, ji_1, ji_2, ji_3, ji_4, ji_5, ji_6, ji_7, ji_8, ji_10, ji_12, ji_29, ji_30, ji_31, ji_40, ji_60, ji_70, ji_80, ji_81, ji_360, ji_512, ji_972, ji_1000000, ji_2147483639, jl_m1, jl_0, jl_1, MS_K hE.1, h10]
    refine k_goE (d := d) hE hv (hlen v) (fun h1 hE1 hat1 hR1 hG1 => ?_)
    have hv6 : v < 6 := by omega
    obtain ⟨n, lo, na, p, hI, hJ⟩ := RE_IJ hE hv
    have hn81 := IV_81 hI
    have hcn := IV_cn hI
    obtain ⟨x1, x2⟩ := isN_of (n := W) (x := nI v) (by omega) hv rfl
    have hq : ∀ h', RE h' tg m ma W po w0 qq El rw → AG (fun t => t ≠ 56) h h' tg tg → Q (some (.int (if isN n i then tInt (sv po w0 qq El v) (nn i) w else -1))) h' := by
      unfold qInt at hQ
      rw [if_pos x1, x2, hcn] at hQ
      exact hQ
    have e1 : zI h1 584 m = nI n := (hR1.1 1 (by decide)).trans hI.1.1
    simp only [e108_15, e108_16, e108_17, e108_18, e108_21, e108_22, e108_23, o_iload, o_lload, o_aload, o_istore, o_lstore, o_astore, o_iinc, o_ipush, o_lpush, o_null, o_ibin, o_ineg, o_lbin, o_ldv, o_lneg, o_lcmp, o_i2l, o_l2i, o_dup, o_pop, o_dupx, o_dup2, o_ic, o_iz, o_nul, o_acmp, o_tsw, o_gI, o_gR, o_pI, o_pZ, o_pR, o_iald, o_bald, o_lald, o_aald, o_iast, o_bast, o_last, o_aast, o_alen, o_newa, o_new, o_mna, o_cast, o_calls, o_callv, o_calli, o_oinit, o_getC, o_refp, o_cpi, o_cpo, o_mmax, o_mmin, o_lmin, o_iret, o_zret, o_lret, o_aret, o_vret, jd_lo, jd_la, jd_nl, jd_pop, List.length_cons, List.length_nil, List.set_cons_zero, List.set_cons_succ, List.getElem?_cons_zero, List.getElem?_cons_succ, List.replicate_succ, List.replicate_zero, List.cons_append, List.nil_append, List.append_nil, Value.category, Option.toList, va_rf, true_implies, false_implies, false_and, and_false, and_true, true_and, and_self, true_or, or_true, false_or, or_false, not_true_eq_false, not_false_eq_true, forall_const, implies_true, if_true, if_false, reduceCtorEq, reduceIte, Nat.reduceAdd, Nat.reduceMul, Nat.reduceSub, Nat.reduceDiv, Nat.reduceMod, Nat.reduceEqDiff, Nat.reduceLeDiff, Nat.reduceLT, Nat.zero_le, Nat.lt_add_one, Nat.le_refl, Nat.sub_zero, Nat.zero_lt_succ, ge_iff_le, ji_m2, ji_m1, ji_0, ji_1, ji_2, ji_3, ji_4, ji_5, ji_6, ji_7, ji_8, ji_10, ji_12, ji_29, ji_30, ji_31, ji_40, ji_60, ji_70, ji_80, ji_81, ji_360, ji_512, ji_972, ji_1000000, ji_2147483639, jl_m1, jl_0, jl_1, MS_K hE1.1, e1]
    refine k_in (d := d + 4) ?_
    simp only [e108_26, e108_29, e108_30, e108_31, o_iload, o_lload, o_aload, o_istore, o_lstore, o_astore, o_iinc, o_ipush, o_lpush, o_null, o_ibin, o_ineg, o_lbin, o_ldv, o_lneg, o_lcmp, o_i2l, o_l2i, o_dup, o_pop, o_dupx, o_dup2, o_ic, o_iz, o_nul, o_acmp, o_tsw, o_gI, o_gR, o_pI, o_pZ, o_pR, o_iald, o_bald, o_lald, o_aald, o_iast, o_bast, o_last, o_aast, o_alen, o_newa, o_new, o_mna, o_cast, o_calls, o_callv, o_calli, o_oinit, o_getC, o_refp, o_cpi, o_cpo, o_mmax, o_mmin, o_lmin, o_iret, o_zret, o_lret, o_aret, o_vret, jd_lo, jd_la, jd_nl, jd_pop, List.length_cons, List.length_nil, List.set_cons_zero, List.set_cons_succ, List.getElem?_cons_zero, List.getElem?_cons_succ, List.replicate_succ, List.replicate_zero, List.cons_append, List.nil_append, List.append_nil, Value.category, Option.toList, va_rf, true_implies, false_implies, false_and, and_false, and_true, true_and, and_self, true_or, or_true, false_or, or_false, not_true_eq_false, not_false_eq_true, forall_const, implies_true, if_true, if_false, reduceCtorEq, reduceIte, Nat.reduceAdd, Nat.reduceMul, Nat.reduceSub, Nat.reduceDiv, Nat.reduceMod, Nat.reduceEqDiff, Nat.reduceLeDiff, Nat.reduceLT, Nat.zero_le, Nat.lt_add_one, Nat.le_refl, Nat.sub_zero, Nat.zero_lt_succ, ge_iff_le, ji_m2, ji_m1, ji_0, ji_1, ji_2, ji_3, ji_4, ji_5, ji_6, ji_7, ji_8, ji_10, ji_12, ji_29, ji_30, ji_31, ji_40, ji_60, ji_70, ji_80, ji_81, ji_360, ji_512, ji_972, ji_1000000, ji_2147483639, jl_m1, jl_0, jl_1, j01]
    refine ⟨fun z => ?_, fun z => ?_⟩
    · have hii := isN_e (n := n) (x := i) (by omega) (Decidable.not_not.mp z)
      obtain ⟨hj, hij⟩ := hii
      have hi1 : isN n i := Decidable.not_not.mp z
      generalize nn i = j at hj hij hq
      subst hij
      have hq1 : ∀ h', RE h' tg m ma W po w0 qq El rw → AG (fun t => t ≠ 56) h h' tg tg → Q (some (.int (tInt (sv po w0 qq El v) j w))) h' := fun h' a b => by
        have := hq h' a b
        rw [if_pos hi1] at this
        exact this
      have hj81 : j < 81 := by omega
      have e6 : zI h1 589 m = (sv po w0 qq El v).1 6 := hR1.1 6 (by decide)
      have ra : ∀ k, k < 9 → zA h1 (ma (14 + k)) j = (sv po w0 qq El v).2.1 k j := fun k hk => hR1.2.1 k j hk (by rw [hcn]; exact hj)
      have r0 : zA h1 (ma 14) j = (sv po w0 qq El v).2.1 0 j := ra 0 (by decide)
      have r1 : zA h1 (ma 15) j = (sv po w0 qq El v).2.1 1 j := ra 1 (by decide)
      have r2 : zA h1 (ma 16) j = (sv po w0 qq El v).2.1 2 j := ra 2 (by decide)
      have r3 : zA h1 (ma 17) j = (sv po w0 qq El v).2.1 3 j := ra 3 (by decide)
      have r4 : zA h1 (ma 18) j = (sv po w0 qq El v).2.1 4 j := ra 4 (by decide)
      have r5 : zA h1 (ma 19) j = (sv po w0 qq El v).2.1 5 j := ra 5 (by decide)
      have r6 : zA h1 (ma 20) j = (sv po w0 qq El v).2.1 6 j := ra 6 (by decide)
      have r8 : zA h1 (ma 22) j = (sv po w0 qq El v).2.1 8 j := ra 8 (by decide)
      have b8 := (hI.2.2.2.2.2.2.2 j hj).1
      have fin := hq1 h1 hE1 hG1
      simp only [e108_32, e108_84, e108_85, e108_88, e108_89, e108_90, e108_91, e108_92, e108_95, e108_96, e108_97, e108_98, e108_99, e108_102, e108_103, e108_104, e108_105, e108_106, e108_109, e108_110, e108_111, e108_114, e108_115, e108_118, e108_119, e108_120, e108_121, e108_124, e108_125, e108_126, e108_127, e108_128, e108_131, e108_132, e108_133, e108_134, e108_135, e108_138, e108_139, e108_140, e108_141, e108_142, e108_145, e108_146, e108_147, e108_148, e108_149, e108_152, e108_155, e108_156, e108_157, e108_158, e108_159, e108_170, e108_171, o_iload, o_lload, o_aload, o_istore, o_lstore, o_astore, o_iinc, o_ipush, o_lpush, o_null, o_ibin, o_ineg, o_lbin, o_ldv, o_lneg, o_lcmp, o_i2l, o_l2i, o_dup, o_pop, o_dupx, o_dup2, o_ic, o_iz, o_nul, o_acmp, o_tsw, o_gI, o_gR, o_pI, o_pZ, o_pR, o_iald, o_bald, o_lald, o_aald, o_iast, o_bast, o_last, o_aast, o_alen, o_newa, o_new, o_mna, o_cast, o_calls, o_callv, o_calli, o_oinit, o_getC, o_refp, o_cpi, o_cpo, o_mmax, o_mmin, o_lmin, o_iret, o_zret, o_lret, o_aret, o_vret, jd_lo, jd_la, jd_nl, jd_pop, List.length_cons, List.length_nil, List.set_cons_zero, List.set_cons_succ, List.getElem?_cons_zero, List.getElem?_cons_succ, List.replicate_succ, List.replicate_zero, List.cons_append, List.nil_append, List.append_nil, Value.category, Option.toList, va_rf, true_implies, false_implies, false_and, and_false, and_true, true_and, and_self, true_or, or_true, false_or, or_false, not_true_eq_false, not_false_eq_true, forall_const, implies_true, if_true, if_false, reduceCtorEq, reduceIte, Nat.reduceAdd, Nat.reduceMul, Nat.reduceSub, Nat.reduceDiv, Nat.reduceMod, Nat.reduceEqDiff, Nat.reduceLeDiff, Nat.reduceLT, Nat.zero_le, Nat.lt_add_one, Nat.le_refl, Nat.sub_zero, Nat.zero_lt_succ, ge_iff_le, ji_m2, ji_m1, ji_0, ji_1, ji_2, ji_3, ji_4, ji_5, ji_6, ji_7, ji_8, ji_10, ji_12, ji_29, ji_30, ji_31, ji_40, ji_60, ji_70, ji_80, ji_81, ji_360, ji_512, ji_972, ji_1000000, ji_2147483639, jl_m1, jl_0, jl_1, MS_K hE1.1, MS_inj hE1.1, MS_R0 hE1.1, MS_K0 hE1.1, MS_L0 hE1.1, MS_R1 hE1.1, MS_K1 hE1.1, MS_L1 hE1.1, MS_R2 hE1.1, MS_K2 hE1.1, MS_L2 hE1.1, MS_R3 hE1.1, MS_K3 hE1.1, MS_L3 hE1.1, MS_R4 hE1.1, MS_K4 hE1.1, MS_L4 hE1.1, MS_R14 hE1.1, MS_K14 hE1.1, MS_L14 hE1.1, MS_R15 hE1.1, MS_K15 hE1.1, MS_L15 hE1.1, MS_R16 hE1.1, MS_K16 hE1.1, MS_L16 hE1.1, MS_R17 hE1.1, MS_K17 hE1.1, MS_L17 hE1.1, MS_R18 hE1.1, MS_K18 hE1.1, MS_L18 hE1.1, MS_R19 hE1.1, MS_K19 hE1.1, MS_L19 hE1.1, MS_R20 hE1.1, MS_K20 hE1.1, MS_L20 hE1.1, MS_R21 hE1.1, MS_K21 hE1.1, MS_L21 hE1.1, MS_R22 hE1.1, MS_K22 hE1.1, MS_L22 hE1.1, MS_R23 hE1.1, MS_K23 hE1.1, MS_L23 hE1.1, MS_R24 hE1.1, MS_K24 hE1.1, MS_L24 hE1.1, MS_R25 hE1.1, MS_K25 hE1.1, MS_L25 hE1.1, MS_R26 hE1.1, MS_K26 hE1.1, MS_L26 hE1.1, MS_R27 hE1.1, MS_K27 hE1.1, MS_L27 hE1.1, MS_R28 hE1.1, MS_K28 hE1.1, MS_L28 hE1.1, MS_R29 hE1.1, MS_K29 hE1.1, MS_L29 hE1.1, MS_R30 hE1.1, MS_K30 hE1.1, MS_L30 hE1.1, MS_R31 hE1.1, MS_K31 hE1.1, MS_L31 hE1.1, MS_R32 hE1.1, MS_K32 hE1.1, MS_L32 hE1.1, MS_R33 hE1.1, MS_K33 hE1.1, MS_L33 hE1.1, MS_R34 hE1.1, MS_K34 hE1.1, MS_L34 hE1.1, MS_R35 hE1.1, MS_K35 hE1.1, MS_L35 hE1.1, MS_R36 hE1.1, MS_K36 hE1.1, MS_L36 hE1.1, MS_R37 hE1.1, MS_K37 hE1.1, MS_L37 hE1.1, MS_R38 hE1.1, MS_K38 hE1.1, MS_L38 hE1.1, MS_R41 hE1.1, MS_K41 hE1.1, MS_L41 hE1.1, jd_sw, Int.reduceAdd, r0, r1, r2, r3, r4, r5, r6, r8, e6, jn_in hj81 (by decide), jn_cl hj81 (by decide)]
      unfold tInt at fin hq1
      refine ⟨⟨fun q => ?_, fun q => ?_, fun q => ?_, fun q => ⟨fun z => ?_, fun z => ?_⟩, fun q => ?_, fun q => ?_, fun q => ?_, fun q => ?_, fun q => ⟨fun z => ?_, fun z => ?_⟩⟩, fun q => ?_⟩
      · have q : w = 0 := Eq.mp (jt w 0 (k := 0) (by decide)) q
        subst q; exact fin
      · have q : w = 1 := Eq.mp (jt w 1 (k := 1) (by decide)) q
        subst q; exact fin
      · have q : w = 2 := Eq.mp (jt w 2 (k := 2) (by decide)) q
        subst q; exact fin
      · have q : w = 3 := Eq.mp (jt w 3 (k := 3) (by decide)) q
        subst q; rw [← z]; exact fin
      · have q : w = 3 := Eq.mp (jt w 3 (k := 3) (by decide)) q
        subst q; rw [← jbit b8 z]; exact fin
      · have q : w = 4 := Eq.mp (jt w 4 (k := 4) (by decide)) q
        subst q; exact fin
      · have q : w = 5 := Eq.mp (jt w 5 (k := 5) (by decide)) q
        subst q; exact fin
      · have q : w = 6 := Eq.mp (jt w 6 (k := 6) (by decide)) q
        subst q; exact fin
      · have q : w = 7 := Eq.mp (jt w 7 (k := 7) (by decide)) q
        subst q; exact fin
      · have q : w = 8 := Eq.mp (jt w 8 (k := 8) (by decide)) q
        subst q
        refine k_adjE (d := d + 3) hE1 hv hat1 hR1 (by decide) (fun h2 hE2 hD2 hG2 => ?_)
        have q2 : Q (some (.int (if (sv po w0 qq El v).1 6 = 0 then -1 else nI (hs (sv po w0 qq El v) (-1) (ca (sv po w0 qq El v)) j)))) h2 := hq1 h2 hE2 (AG_t hG1 hG2)
        rw [if_neg z] at q2
        simp only [e108_162, e108_163, e108_166, e108_167, e108_168, e108_169, o_iload, o_lload, o_aload, o_istore, o_lstore, o_astore, o_iinc, o_ipush, o_lpush, o_null, o_ibin, o_ineg, o_lbin, o_ldv, o_lneg, o_lcmp, o_i2l, o_l2i, o_dup, o_pop, o_dupx, o_dup2, o_ic, o_iz, o_nul, o_acmp, o_tsw, o_gI, o_gR, o_pI, o_pZ, o_pR, o_iald, o_bald, o_lald, o_aald, o_iast, o_bast, o_last, o_aast, o_alen, o_newa, o_new, o_mna, o_cast, o_calls, o_callv, o_calli, o_oinit, o_getC, o_refp, o_cpi, o_cpo, o_mmax, o_mmin, o_lmin, o_iret, o_zret, o_lret, o_aret, o_vret, jd_lo, jd_la, jd_nl, jd_pop, List.length_cons, List.length_nil, List.set_cons_zero, List.set_cons_succ, List.getElem?_cons_zero, List.getElem?_cons_succ, List.replicate_succ, List.replicate_zero, List.cons_append, List.nil_append, List.append_nil, Value.category, Option.toList, va_rf, true_implies, false_implies, false_and, and_false, and_true, true_and, and_self, true_or, or_true, false_or, or_false, not_true_eq_false, not_false_eq_true, forall_const, implies_true, if_true, if_false, reduceCtorEq, reduceIte, Nat.reduceAdd, Nat.reduceMul, Nat.reduceSub, Nat.reduceDiv, Nat.reduceMod, Nat.reduceEqDiff, Nat.reduceLeDiff, Nat.reduceLT, Nat.zero_le, Nat.lt_add_one, Nat.le_refl, Nat.sub_zero, Nat.zero_lt_succ, ge_iff_le, ji_m2, ji_m1, ji_0, ji_1, ji_2, ji_3, ji_4, ji_5, ji_6, ji_7, ji_8, ji_10, ji_12, ji_29, ji_30, ji_31, ji_40, ji_60, ji_70, ji_80, ji_81, ji_360, ji_512, ji_972, ji_1000000, ji_2147483639, jl_m1, jl_0, jl_1, MS_K hE2.1, MS_inj hE2.1, MS_R0 hE2.1, MS_K0 hE2.1, MS_L0 hE2.1, MS_R1 hE2.1, MS_K1 hE2.1, MS_L1 hE2.1, MS_R2 hE2.1, MS_K2 hE2.1, MS_L2 hE2.1, MS_R3 hE2.1, MS_K3 hE2.1, MS_L3 hE2.1, MS_R4 hE2.1, MS_K4 hE2.1, MS_L4 hE2.1, MS_R14 hE2.1, MS_K14 hE2.1, MS_L14 hE2.1, MS_R15 hE2.1, MS_K15 hE2.1, MS_L15 hE2.1, MS_R16 hE2.1, MS_K16 hE2.1, MS_L16 hE2.1, MS_R17 hE2.1, MS_K17 hE2.1, MS_L17 hE2.1, MS_R18 hE2.1, MS_K18 hE2.1, MS_L18 hE2.1, MS_R19 hE2.1, MS_K19 hE2.1, MS_L19 hE2.1, MS_R20 hE2.1, MS_K20 hE2.1, MS_L20 hE2.1, MS_R21 hE2.1, MS_K21 hE2.1, MS_L21 hE2.1, MS_R22 hE2.1, MS_K22 hE2.1, MS_L22 hE2.1, MS_R23 hE2.1, MS_K23 hE2.1, MS_L23 hE2.1, MS_R24 hE2.1, MS_K24 hE2.1, MS_L24 hE2.1, MS_R25 hE2.1, MS_K25 hE2.1, MS_L25 hE2.1, MS_R26 hE2.1, MS_K26 hE2.1, MS_L26 hE2.1, MS_R27 hE2.1, MS_K27 hE2.1, MS_L27 hE2.1, MS_R28 hE2.1, MS_K28 hE2.1, MS_L28 hE2.1, MS_R29 hE2.1, MS_K29 hE2.1, MS_L29 hE2.1, MS_R30 hE2.1, MS_K30 hE2.1, MS_L30 hE2.1, MS_R31 hE2.1, MS_K31 hE2.1, MS_L31 hE2.1, MS_R32 hE2.1, MS_K32 hE2.1, MS_L32 hE2.1, MS_R33 hE2.1, MS_K33 hE2.1, MS_L33 hE2.1, MS_R34 hE2.1, MS_K34 hE2.1, MS_L34 hE2.1, MS_R35 hE2.1, MS_K35 hE2.1, MS_L35 hE2.1, MS_R36 hE2.1, MS_K36 hE2.1, MS_L36 hE2.1, MS_R37 hE2.1, MS_K37 hE2.1, MS_L37 hE2.1, MS_R38 hE2.1, MS_K38 hE2.1, MS_L38 hE2.1, MS_R41 hE2.1, MS_K41 hE2.1, MS_L41 hE2.1, jn_in hj81 (by decide), jn_cl hj81 (by decide), hD2.2.1 j (by rw [hcn]; exact hj), lN_i]
        exact q2
      · have q : w = 8 := Eq.mp (jt w 8 (k := 8) (by decide)) q
        subst q
        have q2 : Q (some (.int (if (sv po w0 qq El v).1 6 = 0 then -1 else nI (hs (sv po w0 qq El v) (-1) (ca (sv po w0 qq El v)) j)))) h1 := fin
        rw [if_pos (Decidable.not_not.mp z)] at q2
        exact q2
      · have hk : ∀ c : Int32, (0 ≤ c.toInt ∧ c.toInt ≤ 8) → ¬ w = c := fun c hc y => by
          rw [y] at q
          omega
        rw [if_neg (hk 0 (by decide)), if_neg (hk 1 (by decide)), if_neg (hk 2 (by decide)), if_neg (hk 3 (by decide)), if_neg (hk 4 (by decide)), if_neg (hk 5 (by decide)), if_neg (hk 6 (by decide)), if_neg (hk 7 (by decide)), if_neg (hk 8 (by decide))] at fin
        exact fin
    · have z := Decidable.not_not.mp z
      have := hq h1 hE1 hG1
      rw [if_neg z] at this
      exact this
  · simp only [e108_5, e108_8, e108_9, o_iload, o_lload, o_aload, o_istore, o_lstore, o_astore, o_iinc, o_ipush, o_lpush, o_null, o_ibin, o_ineg, o_lbin, o_ldv, o_lneg, o_lcmp, o_i2l, o_l2i, o_dup, o_pop, o_dupx, o_dup2, o_ic, o_iz, o_nul, o_acmp, o_tsw, o_gI, o_gR, o_pI, o_pZ, o_pR, o_iald, o_bald, o_lald, o_aald, o_iast, o_bast, o_last, o_aast, o_alen, o_newa, o_new, o_mna, o_cast, o_calls, o_callv, o_calli, o_oinit, o_getC, o_refp, o_cpi, o_cpo, o_mmax, o_mmin, o_lmin, o_iret, o_zret, o_lret, o_aret, o_vret, jd_lo, jd_la, jd_nl, jd_pop, List.length_cons, List.length_nil, List.set_cons_zero, List.set_cons_succ, List.getElem?_cons_zero, List.getElem?_cons_succ, List.replicate_succ, List.replicate_zero, List.cons_append, List.nil_append, List.append_nil, Value.category, Option.toList, va_rf, true_implies, false_implies, false_and, and_false, and_true, true_and, and_self, true_or, or_true, false_or, or_false, not_true_eq_false, not_false_eq_true, forall_const, implies_true, if_true, if_false, reduceCtorEq, reduceIte, Nat.reduceAdd, Nat.reduceMul, Nat.reduceSub, Nat.reduceDiv, Nat.reduceMod, Nat.reduceEqDiff, Nat.reduceLeDiff, Nat.reduceLT, Nat.zero_le, Nat.lt_add_one, Nat.le_refl, Nat.sub_zero, Nat.zero_lt_succ, ge_iff_le, ji_m2, ji_m1, ji_0, ji_1, ji_2, ji_3, ji_4, ji_5, ji_6, ji_7, ji_8, ji_10, ji_12, ji_29, ji_30, ji_31, ji_40, ji_60, ji_70, ji_80, ji_81, ji_360, ji_512, ji_972, ji_1000000, ji_2147483639, jl_m1, jl_0, jl_1]
    have := hQ h hE AG_r
    unfold qInt at this
    rw [if_neg (isN_no (by omega) hx)] at this
    exact this
end
