/-! the class: constructors, voyage -/
def tgL (tg : Nat → Nat) (T : Nat → Nat) : List (Nat × Nat × Nat × Nat) → Nat → Nat
  | [] => tg
  | t :: ls => u1 (tgL tg T ls) t.2.2.2 (T t.1)
section
variable {h h' : jd_H} {A : Nat} {ls : List (Nat × Nat × Nat × Nat)} {tg T : Nat → Nat} {P : Nat → Prop}
theorem tgL_o {a : Nat} : ∀ ls : List (Nat × Nat × Nat × Nat), (∀ t, t ∈ ls → a ≠ t.2.2.2) → tgL tg T ls a = tg a
  | [], _ => rfl
  | t :: ls, h => (if_neg (h t (List.mem_cons_self ..))).trans (tgL_o ls (fun s hs => h s (List.mem_cons_of_mem _ hs)))
theorem tgL_m {t : Nat × Nat × Nat × Nat} : ∀ ls : List (Nat × Nat × Nat × Nat), (∀ s t, s ∈ ls → t ∈ ls → s.2.2.2 = t.2.2.2 → s = t) → t ∈ ls → tgL tg T ls t.2.2.2 = T t.1
  | [], _, ht => (nomatch ht)
  | s :: ls, h, ht => by
    by_cases e : t.2.2.2 = s.2.2.2
    · have := h t s ht (List.mem_cons_self ..) e
      subst this
      exact if_pos rfl
    · rcases List.mem_cons.mp ht with z | z
      · rw [z] at e; exact absurd rfl e
      · exact (if_neg e).trans (tgL_m ls (fun a b ha hb => h a b (List.mem_cons_of_mem _ ha) (List.mem_cons_of_mem _ hb)) z)
theorem NA_AG (n : NA h h' A ls) (hA : ¬ P (tg A)) : AG P h h' tg (tgL tg T ls) := fun a ha => by
  obtain ⟨z1, z2, z3, z4, z5⟩ := NA_o n ha
  refine ⟨z1, z2, tgL_o ls (fun t ht z => ha (by rw [z]; exact (n.1 t ht).1)), fun hp => ?_⟩
  have hne : a ≠ A := fun z => hA (by rw [← z]; exact hp)
  exact ⟨fun f => n.2.2.2.1 f a hne, fun f => n.2.2.2.2.1 f a hne, z3, z4, z5⟩
/-- a new object -/
theorem AG_n {q k t : Nat} (hq : zK h q = 0) : AG P h (wN h q k) tg (u1 tg q t) := AG_wN hq
end
section
variable {g d : Nat} {h : jd_H} {Q : jd_Q} {tg : Nat → Nat} {x de W : Nat} {po w0 : Nat → Int32} {qq : Nat → Nat} {El : Nat → List Ev} {AD : Nat → Nat → Nat → Nat}
set_option maxRecDepth 100000 in
theorem k_dinit (hk : zK h x = 8) (tx : tg x = 100) (hd : zK h de = 15 ∧ zL h de = 0) (hQ : ∀ h' tg' vl aj, cDesk h' tg' x vl aj 0 po w0 qq El AD → AG (fun u => u < 100) h h' tg tg' → Q none h') : jd_WM g (d + 5) 50 [.ref x] h Q := by
  refine ⟨Nat.le_of_ble_eq_true rfl, ?_⟩; show jd_w g (d + 4) 50 Q 0 [some (.ref x)] [] h 6 335
  simp only [e50_0, e50_1, e50_4, e50_5, o_iload, o_lload, o_aload, o_istore, o_lstore, o_astore, o_iinc, o_ipush, o_lpush, o_null, o_ibin, o_ineg, o_lbin, o_ldv, o_lneg, o_lcmp, o_i2l, o_l2i, o_dup, o_pop, o_dupx, o_dup2, o_ic, o_iz, o_nul, o_acmp, o_tsw, o_gI, o_gR, o_pI, o_pZ, o_pR, o_iald, o_bald, o_lald, o_aald, o_iast, o_bast, o_last, o_aast, o_alen, o_newa, o_new, o_mna, o_cast, o_calls, o_callv, o_calli, o_oinit, o_getC, o_refp, o_cpi, o_cpo, o_mmax, o_mmin, o_lmin, o_iret, o_zret, o_lret, o_aret, o_vret, jd_lo, jd_la, jd_nl, jd_pop, List.length_cons, List.length_nil, List.set_cons_zero, List.set_cons_succ, List.getElem?_cons_zero, List.getElem?_cons_succ, List.replicate_succ, List.replicate_zero, List.cons_append, List.nil_append, List.append_nil, Value.category, Option.toList, va_rf, true_implies, false_implies, false_and, and_false, and_true, true_and, and_self, true_or, or_true, false_or, or_false, not_true_eq_false, not_false_eq_true, forall_const, implies_true, if_true, if_false, reduceCtorEq, reduceIte, Nat.reduceAdd, Nat.reduceMul, Nat.reduceSub, Nat.reduceDiv, Nat.reduceMod, Nat.reduceEqDiff, Nat.reduceLeDiff, Nat.reduceLT, Nat.zero_le, Nat.lt_add_one, Nat.le_refl, Nat.sub_zero, Nat.zero_lt_succ, ge_iff_le, ji_m2, ji_m1, ji_0, ji_1, ji_2, ji_3, ji_4, ji_5, ji_6, ji_7, ji_8, ji_10, ji_12, ji_29, ji_30, ji_31, ji_40, ji_60, ji_70, ji_80, ji_81, ji_360, ji_512, ji_972, ji_1000000, ji_2147483639, jl_m1, jl_0, jl_1]
  intro vl hvl
  have xv : ¬ x = vl := fun z => by rw [z, hvl] at hk; exact absurd hk (by decide)
  have dv' : ¬ de = vl := fun z => by have := hd.1; rw [z, hvl] at this; exact absurd this (by decide)
  simp only [e50_8, e50_9, o_iload, o_lload, o_aload, o_istore, o_lstore, o_astore, o_iinc, o_ipush, o_lpush, o_null, o_ibin, o_ineg, o_lbin, o_ldv, o_lneg, o_lcmp, o_i2l, o_l2i, o_dup, o_pop, o_dupx, o_dup2, o_ic, o_iz, o_nul, o_acmp, o_tsw, o_gI, o_gR, o_pI, o_pZ, o_pR, o_iald, o_bald, o_lald, o_aald, o_iast, o_bast, o_last, o_aast, o_alen, o_newa, o_new, o_mna, o_cast, o_calls, o_callv, o_calli, o_oinit, o_getC, o_refp, o_cpi, o_cpo, o_mmax, o_mmin, o_lmin, o_iret, o_zret, o_lret, o_aret, o_vret, jd_lo, jd_la, jd_nl, jd_pop, List.length_cons, List.length_nil, List.set_cons_zero, List.set_cons_succ, List.getElem?_cons_zero, List.getElem?_cons_succ, List.replicate_succ, List.replicate_zero, List.cons_append, List.nil_append, List.append_nil, Value.category, Option.toList, va_rf, true_implies, false_implies, false_and, and_false, and_true, true_and, and_self, true_or, or_true, false_or, or_false, not_true_eq_false, not_false_eq_true, forall_const, implies_true, if_true, if_false, reduceCtorEq, reduceIte, Nat.reduceAdd, Nat.reduceMul, Nat.reduceSub, Nat.reduceDiv, Nat.reduceMod, Nat.reduceEqDiff, Nat.reduceLeDiff, Nat.reduceLT, Nat.zero_le, Nat.lt_add_one, Nat.le_refl, Nat.sub_zero, Nat.zero_lt_succ, ge_iff_le, ji_m2, ji_m1, ji_0, ji_1, ji_2, ji_3, ji_4, ji_5, ji_6, ji_7, ji_8, ji_10, ji_12, ji_29, ji_30, ji_31, ji_40, ji_60, ji_70, ji_80, ji_81, ji_360, ji_512, ji_972, ji_1000000, ji_2147483639, jl_m1, jl_0, jl_1]
  have hG1 : ∀ P : Nat → Prop, AG P h (wN h vl 1) tg (u1 tg vl 101) := fun P => AG_n hvl
  refine k_lnew (d := d) (t := 101) (tg := u1 tg vl 101) (el := fun v => AD v 0 0) (de := de) (by rw [rw_KN, if_pos rfl]) (by rw [rw_IN, if_pos rfl]) ⟨by rw [rw_KN, if_neg dv']; exact hd.1, hd.2⟩ (if_pos rfl) (fun h2 hL2 hG2 => ?_)
  have x0 : zK h x ≠ 0 := by rw [hk]; decide
  have kx2 : zK h2 x = 8 := AG_K hG2 (AG_K (hG1 (fun _ => True)) hk (by decide)) (by decide)
  have tx2 : u1 tg vl 101 x = 100 := (if_neg xv).trans tx
  simp only [e50_12, o_iload, o_lload, o_aload, o_istore, o_lstore, o_astore, o_iinc, o_ipush, o_lpush, o_null, o_ibin, o_ineg, o_lbin, o_ldv, o_lneg, o_lcmp, o_i2l, o_l2i, o_dup, o_pop, o_dupx, o_dup2, o_ic, o_iz, o_nul, o_acmp, o_tsw, o_gI, o_gR, o_pI, o_pZ, o_pR, o_iald, o_bald, o_lald, o_aald, o_iast, o_bast, o_last, o_aast, o_alen, o_newa, o_new, o_mna, o_cast, o_calls, o_callv, o_calli, o_oinit, o_getC, o_refp, o_cpi, o_cpo, o_mmax, o_mmin, o_lmin, o_iret, o_zret, o_lret, o_aret, o_vret, jd_lo, jd_la, jd_nl, jd_pop, List.length_cons, List.length_nil, List.set_cons_zero, List.set_cons_succ, List.getElem?_cons_zero, List.getElem?_cons_succ, List.replicate_succ, List.replicate_zero, List.cons_append, List.nil_append, List.append_nil, Value.category, Option.toList, va_rf, true_implies, false_implies, false_and, and_false, and_true, true_and, and_self, true_or, or_true, false_or, or_false, not_true_eq_false, not_false_eq_true, forall_const, implies_true, if_true, if_false, reduceCtorEq, reduceIte, Nat.reduceAdd, Nat.reduceMul, Nat.reduceSub, Nat.reduceDiv, Nat.reduceMod, Nat.reduceEqDiff, Nat.reduceLeDiff, Nat.reduceLT, Nat.zero_le, Nat.lt_add_one, Nat.le_refl, Nat.sub_zero, Nat.zero_lt_succ, ge_iff_le, ji_m2, ji_m1, ji_0, ji_1, ji_2, ji_3, ji_4, ji_5, ji_6, ji_7, ji_8, ji_10, ji_12, ji_29, ji_30, ji_31, ji_40, ji_60, ji_70, ji_80, ji_81, ji_360, ji_512, ji_972, ji_1000000, ji_2147483639, jl_m1, jl_0, jl_1, kx2]
  have hG3 : AG (fun u => u ≠ 100) h2 (wR h2 512 x (some vl)) (u1 tg vl 101) (u1 tg vl 101) := AG_wR (fun z => z tx2)
  have hL3 := vLS_fr hL2 hG3 (by decide)
  have r3 : zR (wR h2 512 x (some vl)) 512 x = some vl := by rw [rw_RR, if_pos ⟨rfl, rfl⟩]
  have kx3 : zK (wR h2 512 x (some vl)) x = 8 := kx2
  generalize wR h2 512 x (some vl) = h3 at hG3 hL3 r3 kx3
  simp only [e50_15, e50_16, o_iload, o_lload, o_aload, o_istore, o_lstore, o_astore, o_iinc, o_ipush, o_lpush, o_null, o_ibin, o_ineg, o_lbin, o_ldv, o_lneg, o_lcmp, o_i2l, o_l2i, o_dup, o_pop, o_dupx, o_dup2, o_ic, o_iz, o_nul, o_acmp, o_tsw, o_gI, o_gR, o_pI, o_pZ, o_pR, o_iald, o_bald, o_lald, o_aald, o_iast, o_bast, o_last, o_aast, o_alen, o_newa, o_new, o_mna, o_cast, o_calls, o_callv, o_calli, o_oinit, o_getC, o_refp, o_cpi, o_cpo, o_mmax, o_mmin, o_lmin, o_iret, o_zret, o_lret, o_aret, o_vret, jd_lo, jd_la, jd_nl, jd_pop, List.length_cons, List.length_nil, List.set_cons_zero, List.set_cons_succ, List.getElem?_cons_zero, List.getElem?_cons_succ, List.replicate_succ, List.replicate_zero, List.cons_append, List.nil_append, List.append_nil, Value.category, Option.toList, va_rf, true_implies, false_implies, false_and, and_false, and_true, true_and, and_self, true_or, or_true, false_or, or_false, not_true_eq_false, not_false_eq_true, forall_const, implies_true, if_true, if_false, reduceCtorEq, reduceIte, Nat.reduceAdd, Nat.reduceMul, Nat.reduceSub, Nat.reduceDiv, Nat.reduceMod, Nat.reduceEqDiff, Nat.reduceLeDiff, Nat.reduceLT, Nat.zero_le, Nat.lt_add_one, Nat.le_refl, Nat.sub_zero, Nat.zero_lt_succ, ge_iff_le, ji_m2, ji_m1, ji_0, ji_1, ji_2, ji_3, ji_4, ji_5, ji_6, ji_7, ji_8, ji_10, ji_12, ji_29, ji_30, ji_31, ji_40, ji_60, ji_70, ji_80, ji_81, ji_360, ji_512, ji_972, ji_1000000, ji_2147483639, jl_m1, jl_0, jl_1]
  intro J hJ
  have xJ : ¬ x = J := fun z => by rw [z, hJ] at kx3; exact absurd kx3 (by decide)
  have hG4 : ∀ P : Nat → Prop, AG P h3 (wN h3 J 3) (u1 tg vl 101) (u1 (u1 tg vl 101) J 200) := fun P => AG_n hJ
  simp only [e50_19, e50_20, o_iload, o_lload, o_aload, o_istore, o_lstore, o_astore, o_iinc, o_ipush, o_lpush, o_null, o_ibin, o_ineg, o_lbin, o_ldv, o_lneg, o_lcmp, o_i2l, o_l2i, o_dup, o_pop, o_dupx, o_dup2, o_ic, o_iz, o_nul, o_acmp, o_tsw, o_gI, o_gR, o_pI, o_pZ, o_pR, o_iald, o_bald, o_lald, o_aald, o_iast, o_bast, o_last, o_aast, o_alen, o_newa, o_new, o_mna, o_cast, o_calls, o_callv, o_calli, o_oinit, o_getC, o_refp, o_cpi, o_cpo, o_mmax, o_mmin, o_lmin, o_iret, o_zret, o_lret, o_aret, o_vret, jd_lo, jd_la, jd_nl, jd_pop, List.length_cons, List.length_nil, List.set_cons_zero, List.set_cons_succ, List.getElem?_cons_zero, List.getElem?_cons_succ, List.replicate_succ, List.replicate_zero, List.cons_append, List.nil_append, List.append_nil, Value.category, Option.toList, va_rf, true_implies, false_implies, false_and, and_false, and_true, true_and, and_self, true_or, or_true, false_or, or_false, not_true_eq_false, not_false_eq_true, forall_const, implies_true, if_true, if_false, reduceCtorEq, reduceIte, Nat.reduceAdd, Nat.reduceMul, Nat.reduceSub, Nat.reduceDiv, Nat.reduceMod, Nat.reduceEqDiff, Nat.reduceLeDiff, Nat.reduceLT, Nat.zero_le, Nat.lt_add_one, Nat.le_refl, Nat.sub_zero, Nat.zero_lt_succ, ge_iff_le, ji_m2, ji_m1, ji_0, ji_1, ji_2, ji_3, ji_4, ji_5, ji_6, ji_7, ji_8, ji_10, ji_12, ji_29, ji_30, ji_31, ji_40, ji_60, ji_70, ji_80, ji_81, ji_360, ji_512, ji_972, ji_1000000, ji_2147483639, jl_m1, jl_0, jl_1]
  have kJ4 : zK (wN h3 J 3) J = 3 := by rw [rw_KN, if_pos rfl]
  have kx4 : zK (wN h3 J 3) x = 8 := by rw [rw_KN, if_neg xJ]; exact kx3
  have r4 : zR (wN h3 J 3) 512 x = some vl := by rw [rw_RN, if_neg xJ]; exact r3
  have hL4 := vLS_fr hL3 (hG4 (fun _ => True)) trivial
  refine k_jinit (d := d + 2) kJ4 (fun h5 q x5 i5 => ?_)
  have tJ : u1 (u1 tg vl 101) J 200 J = 200 := if_pos rfl
  have tx4 : u1 (u1 tg vl 101) J 200 x = 100 := (if_neg xJ).trans tx2
  have hG5 : AG (fun u => u ≠ 200) (wN h3 J 3) h5 (u1 (u1 tg vl 101) J 200) (tgL (u1 (u1 tg vl 101) J 200) (fun f => f + 9) [(195, 11, 81, q 3), (194, 10, 81, q 2), (193, 10, 81, q 1), (192, 10, 81, q 0)]) := NA_AG x5 (fun z => z tJ)
  have x40 : zK (wN h3 J 3) x ≠ 0 := by rw [kx4]; decide
  have J40 : zK (wN h3 J 3) J ≠ 0 := by rw [kJ4]; decide
  have kx5 : zK h5 x = 8 := AG_K hG5 kx4 (by decide)
  have r5 : zR h5 512 x = some vl := (AG_R hG5 x40 (by rw [tx4]; decide) 512).trans r4
  have hL5 := vLS_fr hL4 hG5 (by decide)
  have m0 := x5.1 (192, 10, 81, q 0) (by simp)
  have m1 := x5.1 (193, 10, 81, q 1) (by simp)
  have m2 := x5.1 (194, 10, 81, q 2) (by simp)
  have m3 := x5.1 (195, 11, 81, q 3) (by simp)
  have t0 : _ = 201 := tgL_m (tg := u1 (u1 tg vl 101) J 200) (T := fun f => f + 9) _ x5.2.1 (t := (192, 10, 81, q 0)) (by simp)
  have t1 : _ = 202 := tgL_m (tg := u1 (u1 tg vl 101) J 200) (T := fun f => f + 9) _ x5.2.1 (t := (193, 10, 81, q 1)) (by simp)
  have t2 : _ = 203 := tgL_m (tg := u1 (u1 tg vl 101) J 200) (T := fun f => f + 9) _ x5.2.1 (t := (194, 10, 81, q 2)) (by simp)
  have t3 : _ = 204 := tgL_m (tg := u1 (u1 tg vl 101) J 200) (T := fun f => f + 9) _ x5.2.1 (t := (195, 11, 81, q 3)) (by simp)
  have kJ5 : zK h5 J = 3 := (NA_o x5 J40).1.trans kJ4
  have tJ5 := (AG_g hG5 J40).trans tJ
  have tx5 := (AG_g hG5 x40).trans tx4
  generalize tgL (u1 (u1 tg vl 101) J 200) (fun f => f + 9) [(195, 11, 81, q 3), (194, 10, 81, q 2), (193, 10, 81, q 1), (192, 10, 81, q 0)] = tg5 at hG5 hL5 t0 t1 t2 t3 tJ5 tx5
  have cJ5 : cVJ h5 tg5 (fun k => if k = 0 then J else q (k - 1)) := by
    refine ⟨⟨kJ5, tJ5⟩, ⟨m0.2.2.2.1, m1.2.2.2.1, m2.2.2.2.1, m3.2.2.2.1⟩, ⟨m0.2.1, m1.2.1, m2.2.1, m3.2.1⟩, fun k h1 h4 => ?_⟩
    have hk : k = 1 ∨ k = 2 ∨ k = 3 ∨ k = 4 := by omega
    rcases hk with rfl | rfl | rfl | rfl
    · exact ⟨m0.2.2.1, t0⟩
    · exact ⟨m1.2.2.1, t1⟩
    · exact ⟨m2.2.2.1, t2⟩
    · exact ⟨m3.2.2.1, t3⟩
  simp only [e50_23, e50_26, o_iload, o_lload, o_aload, o_istore, o_lstore, o_astore, o_iinc, o_ipush, o_lpush, o_null, o_ibin, o_ineg, o_lbin, o_ldv, o_lneg, o_lcmp, o_i2l, o_l2i, o_dup, o_pop, o_dupx, o_dup2, o_ic, o_iz, o_nul, o_acmp, o_tsw, o_gI, o_gR, o_pI, o_pZ, o_pR, o_iald, o_bald, o_lald, o_aald, o_iast, o_bast, o_last, o_aast, o_alen, o_newa, o_new, o_mna, o_cast, o_calls, o_callv, o_calli, o_oinit, o_getC, o_refp, o_cpi, o_cpo, o_mmax, o_mmin, o_lmin, o_iret, o_zret, o_lret, o_aret, o_vret, jd_lo, jd_la, jd_nl, jd_pop, List.length_cons, List.length_nil, List.set_cons_zero, List.set_cons_succ, List.getElem?_cons_zero, List.getElem?_cons_succ, List.replicate_succ, List.replicate_zero, List.cons_append, List.nil_append, List.append_nil, Value.category, Option.toList, va_rf, true_implies, false_implies, false_and, and_false, and_true, true_and, and_self, true_or, or_true, false_or, or_false, not_true_eq_false, not_false_eq_true, forall_const, implies_true, if_true, if_false, reduceCtorEq, reduceIte, Nat.reduceAdd, Nat.reduceMul, Nat.reduceSub, Nat.reduceDiv, Nat.reduceMod, Nat.reduceEqDiff, Nat.reduceLeDiff, Nat.reduceLT, Nat.zero_le, Nat.lt_add_one, Nat.le_refl, Nat.sub_zero, Nat.zero_lt_succ, ge_iff_le, ji_m2, ji_m1, ji_0, ji_1, ji_2, ji_3, ji_4, ji_5, ji_6, ji_7, ji_8, ji_10, ji_12, ji_29, ji_30, ji_31, ji_40, ji_60, ji_70, ji_80, ji_81, ji_360, ji_512, ji_972, ji_1000000, ji_2147483639, jl_m1, jl_0, jl_1, kx5]
  have hG6 : AG (fun u => u ≠ 100) h5 (wR h5 513 x (some J)) tg5 tg5 := AG_wR (fun z => z tx5)
  refine hQ _ tg5 vl (fun k => if k = 0 then J else q (k - 1)) ⟨⟨kx5, tx5, ?_, ?_⟩, ⟨by decide, vLS_fr hL5 hG6 (by decide)⟩, cVJ_fr cJ5 hG6 (by decide), fun v hv => absurd hv (Nat.not_lt_zero v)⟩ (AG_t (hG1 _) (AG_t (AG_w hG2 (fun u hu => by omega)) (AG_t (AG_w hG3 (fun u hu => by omega)) (AG_t (hG4 _) (AG_t (AG_w hG5 (fun u hu => by omega)) (AG_w hG6 (fun u hu => by omega)))))))
  · rw [rw_RR, if_neg (fun z => absurd z.1 (by decide))]; exact r5
  · rw [rw_RR, if_pos ⟨rfl, rfl⟩]; rfl
end
