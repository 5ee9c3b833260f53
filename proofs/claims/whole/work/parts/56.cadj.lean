/-! the class: the adjuster -/
/-- only the adjuster is written -/
def JF (aj : Nat → Nat) (h h' : jd_H) : Prop := zK h' = zK h ∧ zR h' = zR h ∧ zL h' = zL h ∧ zO h' = zO h ∧ (∀ f a, ¬ (a = aj 0 ∧ 196 ≤ f ∧ f ≤ 199) → zI h' f a = zI h f a) ∧ (∀ a, a ≠ aj 1 → a ≠ aj 2 → a ≠ aj 3 → zA h' a = zA h a) ∧ ∀ a, a ≠ aj 4 → zJ h' a = zJ h a
theorem si_sm {f : Nat → Int32} {u : Nat → Nat} : ∀ n, (∀ i, i < n → f i = nI (u i)) → si f n = nI (sm u n)
  | 0, _ => rfl
  | n + 1, h => by rw [si, sm, si_sm n (fun i hi => h i (by omega)), h n (by omega), nI_add]
section
variable {aj tg : Nat → Nat} {h h1 h2 : jd_H}
theorem JF_r : JF aj h h := ⟨rfl, rfl, rfl, rfl, fun _ _ _ => rfl, fun _ _ _ _ => rfl, fun _ _ => rfl⟩
theorem JF_t (a : JF aj h h1) (b : JF aj h1 h2) : JF aj h h2 := ⟨b.1.trans a.1, b.2.1.trans a.2.1, b.2.2.1.trans a.2.2.1, b.2.2.2.1.trans a.2.2.2.1, fun f x p => (b.2.2.2.2.1 f x p).trans (a.2.2.2.2.1 f x p), fun x p q r => (b.2.2.2.2.2.1 x p q r).trans (a.2.2.2.2.2.1 x p q r), fun x p => (b.2.2.2.2.2.2 x p).trans (a.2.2.2.2.2.2 x p)⟩
theorem JF_I {f : Nat} {x : Int32} (a : JF aj h h1) (h1f : 196 ≤ f) (h2f : f ≤ 199) : JF aj h (wI h1 f (aj 0) x) := JF_t a ⟨rfl, rfl, rfl, rfl, fun p b q => by rw [rw_II, if_neg (fun z => q ⟨z.2, by omega, by omega⟩)], fun _ _ _ _ => rfl, fun _ _ => rfl⟩
theorem JF_A {k i : Nat} {x : Int32} (a : JF aj h h1) (hk : k = 1 ∨ k = 2 ∨ k = 3) : JF aj h (wA h1 (aj k) i x) := JF_t a ⟨rfl, rfl, rfl, rfl, fun _ _ _ => rfl, fun b p q r => wA_na (by rcases hk with rfl | rfl | rfl <;> assumption), fun _ _ => rfl⟩
theorem JF_D (a : DT (aj 3) (aj 4) h h1) : JF aj h h1 := ⟨a.1, a.2.2.1, a.2.2.2.1, a.2.2.2.2.1, fun f x _ => by rw [a.2.1], fun x _ _ r => a.2.2.2.2.2.1 x r, fun x p => a.2.2.2.2.2.2 x p⟩
theorem JF_J (a : JF aj h h1) (c : cVJ h tg aj) : cVJ h1 tg aj := by
  unfold cVJ at c ⊢
  rw [a.1, a.2.1, a.2.2.1]
  exact c
theorem cVJ_ne (c : cVJ h tg aj) {j k : Nat} (hj : j ≤ 4) (hk : k ≤ 4) (hjk : j ≠ k) : ¬ aj j = aj k := fun z => by
  have t : ∀ k, k ≤ 4 → tg (aj k) = 200 + k := fun k hk => by
    by_cases e : k = 0
    · subst e; exact c.1.2
    · exact (c.2.2.2 k (by omega) hk).2
  have h1 := t j hj
  rw [z, t k hk] at h1
  omega
theorem JF_AG (a : JF aj h h1) (c : cVJ h tg aj) : AG (fun u => u < 200 ∨ 204 < u) h h1 tg tg := fun b hb => by
  have t : ∀ k, k ≤ 4 → tg (aj k) = 200 + k := fun k hk => by
    by_cases e : k = 0
    · subst e; exact c.1.2
    · exact (c.2.2.2 k (by omega) hk).2
  have ne : (tg b < 200 ∨ 204 < tg b) → ∀ k, k ≤ 4 → b ≠ aj k := fun hp k hk z => by
    rw [z, t k hk] at hp
    omega
  exact ⟨by rw [a.1], by rw [a.2.2.1], rfl, fun hp => ⟨fun f => a.2.2.2.2.1 f b (fun z => ne hp 0 (by decide) z.1), fun f => by rw [a.2.1], a.2.2.2.2.2.1 b (ne hp 1 (by decide)) (ne hp 2 (by decide)) (ne hp 3 (by decide)), a.2.2.2.2.2.2 b (ne hp 4 (by decide)), by rw [a.2.2.2.1]⟩⟩
end
section
variable {g d : Nat} {h : jd_H} {Q : jd_Q} {tg aj : Nat → Nat} {ad : Nat → Nat → Nat} {v n lo na p q a : Nat} {pp ou : Int32} {s : VS} {H : Nat → Nat}
set_option maxRecDepth 100000 in
theorem l_cst {f : Nat → Nat → Int32} (cJ : cVJ h tg aj) (c : cVI h tg ad v n f) (hn : n ≤ 81)
    (hQ : ∀ h2, JF aj h h2 → zI h2 196 (aj 0) = nI n → (∀ i, i < n → zA h2 (aj 1) i = f 2 i) → Q none h2) :
    ∀ (r i0 : Nat) (h2 : jd_H), i0 + r = n → JF aj h h2 → zI h2 196 (aj 0) = nI n → (∀ i, i < i0 → zA h2 (aj 1) i = f 2 i) → jd_w g (d + 3) 4 Q 17 [some (.ref (aj 0)), some (.ref (ad 1 0)), some (.int (nI i0))] [] h2 0 0 := by
  intro r
  induction r with
  | zero =>
    intro i0 h2 hi hF hp hA
    have hin : i0 = n := by omega
    subst hin
    have cJ2 := JF_J hF cJ
    simp only [e4_17, e4_18, e4_19, e4_22, e4_50, o_iload, o_lload, o_aload, o_istore, o_lstore, o_astore, o_iinc, o_ipush, o_lpush, o_null, o_ibin, o_ineg, o_lbin, o_ldv, o_lneg, o_lcmp, o_i2l, o_l2i, o_dup, o_pop, o_dupx, o_dup2, o_ic, o_iz, o_nul, o_acmp, o_tsw, o_gI, o_gR, o_pI, o_pZ, o_pR, o_iald, o_bald, o_lald, o_aald, o_iast, o_bast, o_last, o_aast, o_alen, o_newa, o_new, o_mna, o_cast, o_calls, o_callv, o_calli, o_oinit, o_getC, o_refp, o_cpi, o_cpo, o_mmax, o_mmin, o_lmin, o_iret, o_zret, o_lret, o_aret, o_vret, jd_lo, jd_la, jd_nl, jd_pop, List.length_cons, List.length_nil, List.set_cons_zero, List.set_cons_succ, List.getElem?_cons_zero, List.getElem?_cons_succ, List.replicate_succ, List.replicate_zero, List.cons_append, List.nil_append, List.append_nil, Value.category, Option.toList, va_rf, true_implies, false_implies, false_and, and_false, and_true, true_and, and_self, true_or, or_true, false_or, or_false, not_true_eq_false, not_false_eq_true, forall_const, implies_true, if_true, if_false, reduceCtorEq, reduceIte, Nat.reduceAdd, Nat.reduceMul, Nat.reduceSub, Nat.reduceDiv, Nat.reduceMod, Nat.reduceEqDiff, Nat.reduceLeDiff, Nat.reduceLT, Nat.zero_le, Nat.lt_add_one, Nat.le_refl, Nat.sub_zero, Nat.zero_lt_succ, ge_iff_le, ji_m2, ji_m1, ji_0, ji_1, ji_2, ji_3, ji_4, ji_5, ji_6, ji_7, ji_8, ji_10, ji_12, ji_29, ji_30, ji_31, ji_40, ji_60, ji_70, ji_80, ji_81, ji_360, ji_512, ji_972, ji_1000000, ji_2147483639, jl_m1, jl_0, jl_1, cJ2.1.1, hp]
    exact ⟨fun _ => hQ h2 hF hp hA, fun w => absurd (Int32.le_refl _) w⟩
  | succ r ih =>
    intro i0 h2 hi hF hp hA
    have cJ2 := JF_J hF cJ
    have hG := JF_AG hF cJ
    have c2 := cVI_fr c hG (by unfold Tg; omega) (fun i _ => by unfold Tg; omega)
    have hnle : ¬ nI n ≤ nI i0 := nI_ge (by omega) (by omega)
    have hi81 : i0 < 81 := by omega
    have L1 := (cJ2.2.2.2 1 (by decide) (by decide)).1
    rw [e4_17]
    simp only [e4_18, e4_19, e4_22, e4_25, e4_26, e4_29, e4_30, e4_31, e4_32, o_iload, o_lload, o_aload, o_istore, o_lstore, o_astore, o_iinc, o_ipush, o_lpush, o_null, o_ibin, o_ineg, o_lbin, o_ldv, o_lneg, o_lcmp, o_i2l, o_l2i, o_dup, o_pop, o_dupx, o_dup2, o_ic, o_iz, o_nul, o_acmp, o_tsw, o_gI, o_gR, o_pI, o_pZ, o_pR, o_iald, o_bald, o_lald, o_aald, o_iast, o_bast, o_last, o_aast, o_alen, o_newa, o_new, o_mna, o_cast, o_calls, o_callv, o_calli, o_oinit, o_getC, o_refp, o_cpi, o_cpo, o_mmax, o_mmin, o_lmin, o_iret, o_zret, o_lret, o_aret, o_vret, jd_lo, jd_la, jd_nl, jd_pop, List.length_cons, List.length_nil, List.set_cons_zero, List.set_cons_succ, List.getElem?_cons_zero, List.getElem?_cons_succ, List.replicate_succ, List.replicate_zero, List.cons_append, List.nil_append, List.append_nil, Value.category, Option.toList, va_rf, true_implies, false_implies, false_and, and_false, and_true, true_and, and_self, true_or, or_true, false_or, or_false, not_true_eq_false, not_false_eq_true, forall_const, implies_true, if_true, if_false, reduceCtorEq, reduceIte, Nat.reduceAdd, Nat.reduceMul, Nat.reduceSub, Nat.reduceDiv, Nat.reduceMod, Nat.reduceEqDiff, Nat.reduceLeDiff, Nat.reduceLT, Nat.zero_le, Nat.lt_add_one, Nat.le_refl, Nat.sub_zero, Nat.zero_lt_succ, ge_iff_le, ji_m2, ji_m1, ji_0, ji_1, ji_2, ji_3, ji_4, ji_5, ji_6, ji_7, ji_8, ji_10, ji_12, ji_29, ji_30, ji_31, ji_40, ji_60, ji_70, ji_80, ji_81, ji_360, ji_512, ji_972, ji_1000000, ji_2147483639, jl_m1, jl_0, jl_1, cJ2.1.1, cJ2.2.1.1, hp, hnle, vLS_K c2.1]
    refine k_lget (d := d) c2.1 (show i0 < n by omega) ?_
    obtain ⟨k0, -, -, -, -, -, -, k7⟩ := c2.2 i0 (by omega)
    simp only [e4_37, e4_40, e4_43, e4_44, e4_47, o_iload, o_lload, o_aload, o_istore, o_lstore, o_astore, o_iinc, o_ipush, o_lpush, o_null, o_ibin, o_ineg, o_lbin, o_ldv, o_lneg, o_lcmp, o_i2l, o_l2i, o_dup, o_pop, o_dupx, o_dup2, o_ic, o_iz, o_nul, o_acmp, o_tsw, o_gI, o_gR, o_pI, o_pZ, o_pR, o_iald, o_bald, o_lald, o_aald, o_iast, o_bast, o_last, o_aast, o_alen, o_newa, o_new, o_mna, o_cast, o_calls, o_callv, o_calli, o_oinit, o_getC, o_refp, o_cpi, o_cpo, o_mmax, o_mmin, o_lmin, o_iret, o_zret, o_lret, o_aret, o_vret, jd_lo, jd_la, jd_nl, jd_pop, List.length_cons, List.length_nil, List.set_cons_zero, List.set_cons_succ, List.getElem?_cons_zero, List.getElem?_cons_succ, List.replicate_succ, List.replicate_zero, List.cons_append, List.nil_append, List.append_nil, Value.category, Option.toList, va_rf, true_implies, false_implies, false_and, and_false, and_true, true_and, and_self, true_or, or_true, false_or, or_false, not_true_eq_false, not_false_eq_true, forall_const, implies_true, if_true, if_false, reduceCtorEq, reduceIte, Nat.reduceAdd, Nat.reduceMul, Nat.reduceSub, Nat.reduceDiv, Nat.reduceMod, Nat.reduceEqDiff, Nat.reduceLeDiff, Nat.reduceLT, Nat.zero_le, Nat.lt_add_one, Nat.le_refl, Nat.sub_zero, Nat.zero_lt_succ, ge_iff_le, ji_m2, ji_m1, ji_0, ji_1, ji_2, ji_3, ji_4, ji_5, ji_6, ji_7, ji_8, ji_10, ji_12, ji_29, ji_30, ji_31, ji_40, ji_60, ji_70, ji_80, ji_81, ji_360, ji_512, ji_972, ji_1000000, ji_2147483639, jl_m1, jl_0, jl_1, rw_KI, rw_II, rw_RI, rw_LI, rw_AI, rw_JI, rw_OI, rw_KR, rw_IR, rw_RR, rw_LR, rw_AR, rw_JR, rw_OR, rw_KA, rw_IA, rw_RA, rw_LA, rw_AA, rw_JA, rw_OA, rw_KJ, rw_IJ, rw_RJ, rw_LJ, rw_AJ, rw_JJ, rw_OJ, rw_KO, rw_IO, rw_RO, rw_LO, rw_AO, rw_JO, rw_OO, rw_KAr, rw_IAr, rw_RAr, rw_LAr, rw_AAr, rw_JAr, rw_OAr, rw_KOr, rw_IOr, rw_ROr, rw_LOr, rw_AOr, rw_JOr, rw_OOr, rw_KN, rw_IN, rw_RN, rw_LN, rw_AN, rw_JN, rw_ON, rw_KY, rw_IY, rw_RY, rw_LY, rw_AY, rw_JY, rw_OY, k0.1, k7, cJ2.2.2.1.1, L1, jn_in hi81 (by decide), jn_cl hi81 (by decide), jn_sc]
    refine ih (i0 + 1) _ (by omega) (JF_A hF (by omega)) hp (fun i hi => ?_)
    rw [rw_AA]
    by_cases e : i = i0
    · subst e; rw [if_pos ⟨rfl, rfl⟩]
    · rw [if_neg (fun w => e w.2)]; exact hA i (by omega)
set_option maxRecDepth 100000 in
theorem k_cstart {f : Nat → Nat → Int32} (cJ : cVJ h tg aj) (c : cVI h tg ad v n f) (hn : n ≤ 81)
    (hQ : ∀ h2, JF aj h h2 → zI h2 196 (aj 0) = nI n → (∀ i, i < n → zA h2 (aj 1) i = f 2 i) → Q none h2) : jd_WM g (d + 4) 4 [.ref (aj 0), .ref (ad 1 0)] h Q := by
  refine ⟨Nat.le_of_ble_eq_true rfl, ?_⟩; show jd_w g (d + 3) 4 Q 0 [some (.ref (aj 0)), some (.ref (ad 1 0)), none] [] h 0 0
  simp only [e4_0, e4_1, e4_2, o_iload, o_lload, o_aload, o_istore, o_lstore, o_astore, o_iinc, o_ipush, o_lpush, o_null, o_ibin, o_ineg, o_lbin, o_ldv, o_lneg, o_lcmp, o_i2l, o_l2i, o_dup, o_pop, o_dupx, o_dup2, o_ic, o_iz, o_nul, o_acmp, o_tsw, o_gI, o_gR, o_pI, o_pZ, o_pR, o_iald, o_bald, o_lald, o_aald, o_iast, o_bast, o_last, o_aast, o_alen, o_newa, o_new, o_mna, o_cast, o_calls, o_callv, o_calli, o_oinit, o_getC, o_refp, o_cpi, o_cpo, o_mmax, o_mmin, o_lmin, o_iret, o_zret, o_lret, o_aret, o_vret, jd_lo, jd_la, jd_nl, jd_pop, List.length_cons, List.length_nil, List.set_cons_zero, List.set_cons_succ, List.getElem?_cons_zero, List.getElem?_cons_succ, List.replicate_succ, List.replicate_zero, List.cons_append, List.nil_append, List.append_nil, Value.category, Option.toList, va_rf, true_implies, false_implies, false_and, and_false, and_true, true_and, and_self, true_or, or_true, false_or, or_false, not_true_eq_false, not_false_eq_true, forall_const, implies_true, if_true, if_false, reduceCtorEq, reduceIte, Nat.reduceAdd, Nat.reduceMul, Nat.reduceSub, Nat.reduceDiv, Nat.reduceMod, Nat.reduceEqDiff, Nat.reduceLeDiff, Nat.reduceLT, Nat.zero_le, Nat.lt_add_one, Nat.le_refl, Nat.sub_zero, Nat.zero_lt_succ, ge_iff_le, ji_m2, ji_m1, ji_0, ji_1, ji_2, ji_3, ji_4, ji_5, ji_6, ji_7, ji_8, ji_10, ji_12, ji_29, ji_30, ji_31, ji_40, ji_60, ji_70, ji_80, ji_81, ji_360, ji_512, ji_972, ji_1000000, ji_2147483639, jl_m1, jl_0, jl_1, vLS_K c.1]
  refine k_lsize (d := d + 2) c.1 ?_
  have hmin : (if (81 : Int32) < nI n then 81 else nI n) = nI n := if_neg (fun z => absurd (nI_le (a := n) (b := 81) hn (by decide)) (Int32.not_le.mpr z))
  simp only [e4_7, e4_9, e4_12, e4_15, e4_16, o_iload, o_lload, o_aload, o_istore, o_lstore, o_astore, o_iinc, o_ipush, o_lpush, o_null, o_ibin, o_ineg, o_lbin, o_ldv, o_lneg, o_lcmp, o_i2l, o_l2i, o_dup, o_pop, o_dupx, o_dup2, o_ic, o_iz, o_nul, o_acmp, o_tsw, o_gI, o_gR, o_pI, o_pZ, o_pR, o_iald, o_bald, o_lald, o_aald, o_iast, o_bast, o_last, o_aast, o_alen, o_newa, o_new, o_mna, o_cast, o_calls, o_callv, o_calli, o_oinit, o_getC, o_refp, o_cpi, o_cpo, o_mmax, o_mmin, o_lmin, o_iret, o_zret, o_lret, o_aret, o_vret, jd_lo, jd_la, jd_nl, jd_pop, List.length_cons, List.length_nil, List.set_cons_zero, List.set_cons_succ, List.getElem?_cons_zero, List.getElem?_cons_succ, List.replicate_succ, List.replicate_zero, List.cons_append, List.nil_append, List.append_nil, Value.category, Option.toList, va_rf, true_implies, false_implies, false_and, and_false, and_true, true_and, and_self, true_or, or_true, false_or, or_false, not_true_eq_false, not_false_eq_true, forall_const, implies_true, if_true, if_false, reduceCtorEq, reduceIte, Nat.reduceAdd, Nat.reduceMul, Nat.reduceSub, Nat.reduceDiv, Nat.reduceMod, Nat.reduceEqDiff, Nat.reduceLeDiff, Nat.reduceLT, Nat.zero_le, Nat.lt_add_one, Nat.le_refl, Nat.sub_zero, Nat.zero_lt_succ, ge_iff_le, ji_m2, ji_m1, ji_0, ji_1, ji_2, ji_3, ji_4, ji_5, ji_6, ji_7, ji_8, ji_10, ji_12, ji_29, ji_30, ji_31, ji_40, ji_60, ji_70, ji_80, ji_81, ji_360, ji_512, ji_972, ji_1000000, ji_2147483639, jl_m1, jl_0, jl_1, rw_KI, rw_II, rw_RI, rw_LI, rw_AI, rw_JI, rw_OI, rw_KR, rw_IR, rw_RR, rw_LR, rw_AR, rw_JR, rw_OR, rw_KA, rw_IA, rw_RA, rw_LA, rw_AA, rw_JA, rw_OA, rw_KJ, rw_IJ, rw_RJ, rw_LJ, rw_AJ, rw_JJ, rw_OJ, rw_KO, rw_IO, rw_RO, rw_LO, rw_AO, rw_JO, rw_OO, rw_KAr, rw_IAr, rw_RAr, rw_LAr, rw_AAr, rw_JAr, rw_OAr, rw_KOr, rw_IOr, rw_ROr, rw_LOr, rw_AOr, rw_JOr, rw_OOr, rw_KN, rw_IN, rw_RN, rw_LN, rw_AN, rw_JN, rw_ON, rw_KY, rw_IY, rw_RY, rw_LY, rw_AY, rw_JY, rw_OY, hmin, cJ.1.1]
  exact l_cst cJ c hn hQ n 0 _ (by omega) (JF_I JF_r (by decide) (by decide)) wI_s (fun i hi => by omega)
theorem sm81 (hn : n ≤ 81) {f : Nat → Nat} (hf : ∀ i, n ≤ i → f i = 0) : sm f 81 = sm f n := by
  have := sm_ext (f := f) (n := n) (81 - n) (fun i h1 _ => hf i h1)
  rw [show n + (81 - n) = 81 by omega] at this
  exact this
/-- what is at hand while act a is adjusted -/
def cAJ (h : jd_H) (tg : Nat → Nat) (ad : Nat → Nat → Nat) (aj : Nat → Nat) (v n a : Nat) (s : VS) (H : Nat → Nat) : Prop := cVJ h tg aj ∧ zI h 196 (aj 0) = nI n ∧ (∀ i, i < n → zA h (aj 1) i = nI (H i)) ∧ cAo h tg ad v a ∧ cAc h ad a (fun k => s.2.2.1 k a) (s.2.2.2 a)
set_option maxRecDepth 100000 in
theorem l_ca1 (hI : IV pp s n lo na p) (hJ : JV q s n na p) (ha : a < na) (hao : ¬ nI a = ou) (c : cAJ h tg ad aj v n a s H)
    (hex : ∀ h2, JF aj h h2 → zA h2 (aj 1) = zA h (aj 1) → zI h2 196 (aj 0) = nI n → zI h2 199 (aj 0) = nI (sm (aPart s ou H a) n) → (∀ i, i < n → zA h2 (aj 2) i = nI (aPart s ou H a i)) → jd_w g d 5 Q 82 [some (.ref (aj 0)), some (.ref (ad 6 a)), some (.int (nI (sm (fun i => if aRi s a i then H i else 0) n))), some (.int (nI n))] [] h2 0 0) :
    ∀ (r i0 : Nat) (h2 : jd_H), i0 + r = n → JF aj h h2 → zA h2 (aj 1) = zA h (aj 1) → zI h2 196 (aj 0) = nI n → zI h2 199 (aj 0) = nI (sm (aPart s ou H a) i0) → (∀ i, i < i0 → zA h2 (aj 2) i = nI (aPart s ou H a i)) → jd_w g d 5 Q 9 [some (.ref (aj 0)), some (.ref (ad 6 a)), some (.int (nI (sm (fun i => if aRi s a i then H i else 0) i0))), some (.int (nI i0))] [] h2 0 0 := by
  have hn81 := IV_81 hI
  have hcn := IV_cn hI
  obtain ⟨cJ, c196, cH, o, cc⟩ := c
  intro r
  induction r with
  | zero =>
    intro i0 h2 hi hF h1a hp h199 hA
    have hin : i0 = n := by omega
    subst hin
    have cJ2 := JF_J hF cJ
    simp only [e5_9, e5_10, e5_11, e5_14, o_iload, o_lload, o_aload, o_istore, o_lstore, o_astore, o_iinc, o_ipush, o_lpush, o_null, o_ibin, o_ineg, o_lbin, o_ldv, o_lneg, o_lcmp, o_i2l, o_l2i, o_dup, o_pop, o_dupx, o_dup2, o_ic, o_iz, o_nul, o_acmp, o_tsw, o_gI, o_gR, o_pI, o_pZ, o_pR, o_iald, o_bald, o_lald, o_aald, o_iast, o_bast, o_last, o_aast, o_alen, o_newa, o_new, o_mna, o_cast, o_calls, o_callv, o_calli, o_oinit, o_getC, o_refp, o_cpi, o_cpo, o_mmax, o_mmin, o_lmin, o_iret, o_zret, o_lret, o_aret, o_vret, jd_lo, jd_la, jd_nl, jd_pop, List.length_cons, List.length_nil, List.set_cons_zero, List.set_cons_succ, List.getElem?_cons_zero, List.getElem?_cons_succ, List.replicate_succ, List.replicate_zero, List.cons_append, List.nil_append, List.append_nil, Value.category, Option.toList, va_rf, true_implies, false_implies, false_and, and_false, and_true, true_and, and_self, true_or, or_true, false_or, or_false, not_true_eq_false, not_false_eq_true, forall_const, implies_true, if_true, if_false, reduceCtorEq, reduceIte, Nat.reduceAdd, Nat.reduceMul, Nat.reduceSub, Nat.reduceDiv, Nat.reduceMod, Nat.reduceEqDiff, Nat.reduceLeDiff, Nat.reduceLT, Nat.zero_le, Nat.lt_add_one, Nat.le_refl, Nat.sub_zero, Nat.zero_lt_succ, ge_iff_le, ji_m2, ji_m1, ji_0, ji_1, ji_2, ji_3, ji_4, ji_5, ji_6, ji_7, ji_8, ji_10, ji_12, ji_29, ji_30, ji_31, ji_40, ji_60, ji_70, ji_80, ji_81, ji_360, ji_512, ji_972, ji_1000000, ji_2147483639, jl_m1, jl_0, jl_1, cJ2.1.1, hp]
    exact ⟨fun _ => hex h2 hF h1a hp h199 hA, fun w => absurd (Int32.le_refl _) w⟩
  | succ r ih =>
    intro i0 h2 hi hF h1a hp h199 hA
    have cJ2 := JF_J hF cJ
    have hG := JF_AG hF cJ
    have o2 := cAo_fr o hG (by unfold Tg; omega)
    have cc2 := cAc_fr o cc hG (by unfold Tg; omega) (by unfold Tg; omega) (by unfold Tg; omega) (by unfold Tg; omega) (by unfold Tg; omega)
    have hnle : ¬ nI n ≤ nI i0 := nI_ge (by omega) (by omega)
    have hi81 : i0 < 81 := by omega
    have L1 := (cJ2.2.2.2 1 (by decide) (by decide)).1
    have L2 := (cJ2.2.2.2 2 (by decide) (by decide)).1
    have r7 : zR h2 128 (ad 6 a) = some (ad 7 a) := cAo_R o2 (k := 0) (by decide)
    have r9 : zR h2 130 (ad 6 a) = some (ad 9 a) := cAo_R o2 (k := 2) (by decide)
    have k7 : zK h2 (ad 7 a) = 12 := (o2.2 0 (by decide)).2.2.1
    have k9 : zK h2 (ad 9 a) = 10 := (o2.2 2 (by decide)).2.2.1
    have l7 : zL h2 (ad 7 a) = 81 := (o2.2 0 (by decide)).2.2.2
    have l9 : zL h2 (ad 9 a) = 81 := (o2.2 2 (by decide)).2.2.2
    obtain ⟨v7, -, v9⟩ := cc2.1 i0 hi81
    obtain ⟨g1, g2⟩ := aGood_n hI hJ ha hi81
    have vH : zA h2 (aj 1) i0 = nI (H i0) := by rw [h1a]; exact cH i0 (by omega)
    have n12 : ¬ aj 1 = aj 2 := cVJ_ne cJ (by decide) (by decide) (by decide)
    have n92 : ¬ ad 9 a = aj 2 := fun z => by
      have h1 := (o2.2 2 (by decide)).2.1
      have h2 := (cJ2.2.2.2 2 (by decide) (by decide)).2
      have e : tg (ad 9 a) = Tg v 9 a := h1
      rw [z, h2] at e
      unfold Tg at e
      omega
    have n72 : ¬ ad 7 a = aj 2 := fun z => by
      have h1 := (o2.2 0 (by decide)).2.1
      have h2 := (cJ2.2.2.2 2 (by decide) (by decide)).2
      have e : tg (ad 7 a) = Tg v 7 a := h1
      rw [z, h2] at e
      unfold Tg at e
      omega
    rw [e5_9]
    by_cases hr0 : s.2.2.1 0 a i0 = 0
    · have p0 : aPart s ou H a i0 = 0 := if_neg (fun w => w.2 hr0)
      have q1 : sm (fun i => if aRi s a i then H i else 0) (i0 + 1) = sm (fun i => if aRi s a i then H i else 0) i0 := by
        show _ + (if aRi s a i0 then H i0 else 0) = _
        rw [if_neg (fun w => w.2 hr0), Nat.add_zero]
      have q2 : sm (aPart s ou H a) (i0 + 1) = sm (aPart s ou H a) i0 := by
        show _ + aPart s ou H a i0 = _
        rw [p0, Nat.add_zero]
      simp only [e5_10, e5_11, e5_14, e5_17, e5_18, e5_21, e5_22, e5_23, e5_24, e5_25, e5_28, e5_29, e5_30, e5_76, e5_79, o_iload, o_lload, o_aload, o_istore, o_lstore, o_astore, o_iinc, o_ipush, o_lpush, o_null, o_ibin, o_ineg, o_lbin, o_ldv, o_lneg, o_lcmp, o_i2l, o_l2i, o_dup, o_pop, o_dupx, o_dup2, o_ic, o_iz, o_nul, o_acmp, o_tsw, o_gI, o_gR, o_pI, o_pZ, o_pR, o_iald, o_bald, o_lald, o_aald, o_iast, o_bast, o_last, o_aast, o_alen, o_newa, o_new, o_mna, o_cast, o_calls, o_callv, o_calli, o_oinit, o_getC, o_refp, o_cpi, o_cpo, o_mmax, o_mmin, o_lmin, o_iret, o_zret, o_lret, o_aret, o_vret, jd_lo, jd_la, jd_nl, jd_pop, List.length_cons, List.length_nil, List.set_cons_zero, List.set_cons_succ, List.getElem?_cons_zero, List.getElem?_cons_succ, List.replicate_succ, List.replicate_zero, List.cons_append, List.nil_append, List.append_nil, Value.category, Option.toList, va_rf, true_implies, false_implies, false_and, and_false, and_true, true_and, and_self, true_or, or_true, false_or, or_false, not_true_eq_false, not_false_eq_true, forall_const, implies_true, if_true, if_false, reduceCtorEq, reduceIte, Nat.reduceAdd, Nat.reduceMul, Nat.reduceSub, Nat.reduceDiv, Nat.reduceMod, Nat.reduceEqDiff, Nat.reduceLeDiff, Nat.reduceLT, Nat.zero_le, Nat.lt_add_one, Nat.le_refl, Nat.sub_zero, Nat.zero_lt_succ, ge_iff_le, ji_m2, ji_m1, ji_0, ji_1, ji_2, ji_3, ji_4, ji_5, ji_6, ji_7, ji_8, ji_10, ji_12, ji_29, ji_30, ji_31, ji_40, ji_60, ji_70, ji_80, ji_81, ji_360, ji_512, ji_972, ji_1000000, ji_2147483639, jl_m1, jl_0, jl_1, rw_KI, rw_II, rw_RI, rw_LI, rw_AI, rw_JI, rw_OI, rw_KR, rw_IR, rw_RR, rw_LR, rw_AR, rw_JR, rw_OR, rw_KA, rw_IA, rw_RA, rw_LA, rw_AA, rw_JA, rw_OA, rw_KJ, rw_IJ, rw_RJ, rw_LJ, rw_AJ, rw_JJ, rw_OJ, rw_KO, rw_IO, rw_RO, rw_LO, rw_AO, rw_JO, rw_OO, rw_KAr, rw_IAr, rw_RAr, rw_LAr, rw_AAr, rw_JAr, rw_OAr, rw_KOr, rw_IOr, rw_ROr, rw_LOr, rw_AOr, rw_JOr, rw_OOr, rw_KN, rw_IN, rw_RN, rw_LN, rw_AN, rw_JN, rw_ON, rw_KY, rw_IY, rw_RY, rw_LY, rw_AY, rw_JY, rw_OY, hnle, cJ2.1.1, cJ2.2.1.2.1, cJ2.2.2.1.2.1, L2, hp, o2.1.1, r7, k7, l7, n72, v7, hr0, jn_in hi81 (by decide), jn_cl hi81 (by decide), jn_sc]
      have := ih (i0 + 1) (wA h2 (aj 2) i0 0) (by omega) (JF_A hF (by omega)) ?_ hp (by rw [q2]; exact h199) (fun i hi => ?_)
      · rw [q1] at this; exact this
      · rw [wA_na n12]; exact h1a
      · rw [rw_AA]
        by_cases e : i = i0
        · subst e; rw [if_pos ⟨rfl, rfl⟩, p0]; rfl
        · rw [if_neg (fun w => e w.2)]; exact hA i (by omega)
    · have hr : aRi s a i0 := ⟨by rw [hcn]; omega, hr0⟩
      have pe : aPart s ou H a i0 = H i0 + aGood s ou a i0 := if_pos hr
      have ge : aGood s ou a i0 = nn (s.2.2.1 2 a i0) := if_neg hao
      have v9' : zA h2 (ad 9 a) i0 = nI (aGood s ou a i0) := v9.trans (by rw [ge]; exact g1)
      have q1 : nI (sm (fun i => if aRi s a i then H i else 0) i0) + nI (H i0) = nI (sm (fun i => if aRi s a i then H i else 0) (i0 + 1)) := by
        rw [nI_add]; congr 1
        show _ = _ + (if aRi s a i0 then H i0 else 0)
        rw [if_pos hr]
      have q0 : nI (H i0) + nI (aGood s ou a i0) = nI (aPart s ou H a i0) := by rw [pe, nI_add]
      have q2 : nI (sm (aPart s ou H a) i0) + nI (aPart s ou H a i0) = nI (sm (aPart s ou H a) (i0 + 1)) := nI_add _ _
      simp only [e5_10, e5_11, e5_14, e5_17, e5_18, e5_21, e5_22, e5_23, e5_24, e5_25, e5_28, e5_29, e5_30, e5_33, e5_34, e5_35, e5_38, e5_39, e5_40, e5_41, e5_42, e5_43, e5_46, e5_47, e5_48, e5_51, e5_52, e5_53, e5_54, e5_57, e5_58, e5_59, e5_60, e5_61, e5_62, e5_63, e5_66, e5_67, e5_70, e5_71, e5_72, e5_73, e5_76, e5_79, o_iload, o_lload, o_aload, o_istore, o_lstore, o_astore, o_iinc, o_ipush, o_lpush, o_null, o_ibin, o_ineg, o_lbin, o_ldv, o_lneg, o_lcmp, o_i2l, o_l2i, o_dup, o_pop, o_dupx, o_dup2, o_ic, o_iz, o_nul, o_acmp, o_tsw, o_gI, o_gR, o_pI, o_pZ, o_pR, o_iald, o_bald, o_lald, o_aald, o_iast, o_bast, o_last, o_aast, o_alen, o_newa, o_new, o_mna, o_cast, o_calls, o_callv, o_calli, o_oinit, o_getC, o_refp, o_cpi, o_cpo, o_mmax, o_mmin, o_lmin, o_iret, o_zret, o_lret, o_aret, o_vret, jd_lo, jd_la, jd_nl, jd_pop, List.length_cons, List.length_nil, List.set_cons_zero, List.set_cons_succ, List.getElem?_cons_zero, List.getElem?_cons_succ, List.replicate_succ, List.replicate_zero, List.cons_append, List.nil_append, List.append_nil, Value.category, Option.toList, va_rf, true_implies, false_implies, false_and, and_false, and_true, true_and, and_self, true_or, or_true, false_or, or_false, not_true_eq_false, not_false_eq_true, forall_const, implies_true, if_true, if_false, reduceCtorEq, reduceIte, Nat.reduceAdd, Nat.reduceMul, Nat.reduceSub, Nat.reduceDiv, Nat.reduceMod, Nat.reduceEqDiff, Nat.reduceLeDiff, Nat.reduceLT, Nat.zero_le, Nat.lt_add_one, Nat.le_refl, Nat.sub_zero, Nat.zero_lt_succ, ge_iff_le, ji_m2, ji_m1, ji_0, ji_1, ji_2, ji_3, ji_4, ji_5, ji_6, ji_7, ji_8, ji_10, ji_12, ji_29, ji_30, ji_31, ji_40, ji_60, ji_70, ji_80, ji_81, ji_360, ji_512, ji_972, ji_1000000, ji_2147483639, jl_m1, jl_0, jl_1, rw_KI, rw_II, rw_RI, rw_LI, rw_AI, rw_JI, rw_OI, rw_KR, rw_IR, rw_RR, rw_LR, rw_AR, rw_JR, rw_OR, rw_KA, rw_IA, rw_RA, rw_LA, rw_AA, rw_JA, rw_OA, rw_KJ, rw_IJ, rw_RJ, rw_LJ, rw_AJ, rw_JJ, rw_OJ, rw_KO, rw_IO, rw_RO, rw_LO, rw_AO, rw_JO, rw_OO, rw_KAr, rw_IAr, rw_RAr, rw_LAr, rw_AAr, rw_JAr, rw_OAr, rw_KOr, rw_IOr, rw_ROr, rw_LOr, rw_AOr, rw_JOr, rw_OOr, rw_KN, rw_IN, rw_RN, rw_LN, rw_AN, rw_JN, rw_ON, rw_KY, rw_IY, rw_RY, rw_LY, rw_AY, rw_JY, rw_OY, hnle, cJ2.1.1, cJ2.2.1.1, cJ2.2.1.2.1, cJ2.2.2.1.1, cJ2.2.2.1.2.1, L1, L2, hp, o2.1.1, r7, r9, k7, k9, l7, l9, n72, n92, n12, v7, v9', vH, hr0, q1, q0, h199, q2, jn_in hi81 (by decide), jn_cl hi81 (by decide), jn_sc]
      refine ih (i0 + 1) _ (by omega) (JF_I (JF_A (JF_A hF (by omega)) (by omega)) (by decide) (by decide)) ?_ ?_ wI_s (fun i hi => ?_)
      · show zA (wA (wA h2 (aj 2) i0 0) (aj 2) i0 _) (aj 1) = _
        rw [wA_na n12, wA_na n12]; exact h1a
      · rw [wI_ne (by decide)]; exact hp
      · show zA (wA (wA h2 (aj 2) i0 0) (aj 2) i0 _) (aj 2) i = _
        rw [rw_AA, rw_AA]
        by_cases e : i = i0
        · subst e; rw [if_pos ⟨rfl, rfl⟩]
        · rw [if_neg (fun w => e w.2), if_neg (fun w => e w.2)]; exact hA i (by omega)
set_option maxRecDepth 100000 in
theorem l_ca2 {x : Int32} (hI : IV pp s n lo na p) (c : cAJ h tg ad aj v n a s H) (cP : ∀ i, i < n → zA h (aj 2) i = nI (aPart s ou H a i)) (cB : ∀ i, i < n → zA h (aj 3) i = nI (aBo s ou H a i))
    (hQ : ∀ h2, JF aj h h2 → zI h2 = zI h → zA h2 (aj 2) = zA h (aj 2) → zA h2 (aj 3) = zA h (aj 3) → (∀ i, i < n → zA h2 (aj 1) i = nI (aStep s ou H a i)) → Q none h2) :
    ∀ (r i0 : Nat) (h2 : jd_H), i0 + r = n → JF aj h h2 → zI h2 = zI h → zA h2 (aj 2) = zA h (aj 2) → zA h2 (aj 3) = zA h (aj 3) → (∀ i, i < n → zA h2 (aj 1) i = nI (if i < i0 then aStep s ou H a i else H i)) → jd_w g d 5 Q 131 [some (.ref (aj 0)), some (.ref (ad 6 a)), some (.int x), some (.int (nI i0))] [] h2 0 0 := by
  have hn81 := IV_81 hI
  have hcn := IV_cn hI
  obtain ⟨cJ, c196, cH, o, cc⟩ := c
  intro r
  induction r with
  | zero =>
    intro i0 h2 hi hF h2i h2b h2c hA
    have hin : i0 = n := by omega
    subst hin
    have cJ2 := JF_J hF cJ
    have hp : zI h2 196 (aj 0) = nI i0 := by rw [h2i]; exact c196
    simp only [e5_131, e5_132, e5_133, e5_136, e5_173, o_iload, o_lload, o_aload, o_istore, o_lstore, o_astore, o_iinc, o_ipush, o_lpush, o_null, o_ibin, o_ineg, o_lbin, o_ldv, o_lneg, o_lcmp, o_i2l, o_l2i, o_dup, o_pop, o_dupx, o_dup2, o_ic, o_iz, o_nul, o_acmp, o_tsw, o_gI, o_gR, o_pI, o_pZ, o_pR, o_iald, o_bald, o_lald, o_aald, o_iast, o_bast, o_last, o_aast, o_alen, o_newa, o_new, o_mna, o_cast, o_calls, o_callv, o_calli, o_oinit, o_getC, o_refp, o_cpi, o_cpo, o_mmax, o_mmin, o_lmin, o_iret, o_zret, o_lret, o_aret, o_vret, jd_lo, jd_la, jd_nl, jd_pop, List.length_cons, List.length_nil, List.set_cons_zero, List.set_cons_succ, List.getElem?_cons_zero, List.getElem?_cons_succ, List.replicate_succ, List.replicate_zero, List.cons_append, List.nil_append, List.append_nil, Value.category, Option.toList, va_rf, true_implies, false_implies, false_and, and_false, and_true, true_and, and_self, true_or, or_true, false_or, or_false, not_true_eq_false, not_false_eq_true, forall_const, implies_true, if_true, if_false, reduceCtorEq, reduceIte, Nat.reduceAdd, Nat.reduceMul, Nat.reduceSub, Nat.reduceDiv, Nat.reduceMod, Nat.reduceEqDiff, Nat.reduceLeDiff, Nat.reduceLT, Nat.zero_le, Nat.lt_add_one, Nat.le_refl, Nat.sub_zero, Nat.zero_lt_succ, ge_iff_le, ji_m2, ji_m1, ji_0, ji_1, ji_2, ji_3, ji_4, ji_5, ji_6, ji_7, ji_8, ji_10, ji_12, ji_29, ji_30, ji_31, ji_40, ji_60, ji_70, ji_80, ji_81, ji_360, ji_512, ji_972, ji_1000000, ji_2147483639, jl_m1, jl_0, jl_1, cJ2.1.1, hp]
    exact ⟨fun _ => hQ h2 hF h2i h2b h2c (fun i hi => by rw [hA i hi, if_pos hi]), fun w => absurd (Int32.le_refl _) w⟩
  | succ r ih =>
    intro i0 h2 hi hF h2i h2b h2c hA
    have cJ2 := JF_J hF cJ
    have hG := JF_AG hF cJ
    have o2 := cAo_fr o hG (by unfold Tg; omega)
    have cc2 := cAc_fr o cc hG (by unfold Tg; omega) (by unfold Tg; omega) (by unfold Tg; omega) (by unfold Tg; omega) (by unfold Tg; omega)
    have hnle : ¬ nI n ≤ nI i0 := nI_ge (by omega) (by omega)
    have hp : zI h2 196 (aj 0) = nI n := by rw [h2i]; exact c196
    have hi81 : i0 < 81 := by omega
    have L1 := (cJ2.2.2.2 1 (by decide) (by decide)).1
    have L2 := (cJ2.2.2.2 2 (by decide) (by decide)).1
    have L3 := (cJ2.2.2.2 3 (by decide) (by decide)).1
    have r7 : zR h2 128 (ad 6 a) = some (ad 7 a) := cAo_R o2 (k := 0) (by decide)
    have k7 : zK h2 (ad 7 a) = 12 := (o2.2 0 (by decide)).2.2.1
    have l7 : zL h2 (ad 7 a) = 81 := (o2.2 0 (by decide)).2.2.2
    obtain ⟨v7, -, -⟩ := cc2.1 i0 hi81
    have vP : zA h2 (aj 2) i0 = nI (aPart s ou H a i0) := by rw [h2b]; exact cP i0 (by omega)
    have vB : zA h2 (aj 3) i0 = nI (aBo s ou H a i0) := by rw [h2c]; exact cB i0 (by omega)
    have hsub : nI (aPart s ou H a i0) - nI (aBo s ou H a i0) = nI (aPart s ou H a i0 - aBo s ou H a i0) := pk_sub (aBo_le H a i0)
    have n21 : ¬ aj 2 = aj 1 := cVJ_ne cJ (by decide) (by decide) (by decide)
    have n31 : ¬ aj 3 = aj 1 := cVJ_ne cJ (by decide) (by decide) (by decide)
    rw [e5_131]
    by_cases hr0 : s.2.2.1 0 a i0 = 0
    · simp only [e5_132, e5_133, e5_136, e5_139, e5_140, e5_143, e5_144, e5_145, e5_167, e5_170, o_iload, o_lload, o_aload, o_istore, o_lstore, o_astore, o_iinc, o_ipush, o_lpush, o_null, o_ibin, o_ineg, o_lbin, o_ldv, o_lneg, o_lcmp, o_i2l, o_l2i, o_dup, o_pop, o_dupx, o_dup2, o_ic, o_iz, o_nul, o_acmp, o_tsw, o_gI, o_gR, o_pI, o_pZ, o_pR, o_iald, o_bald, o_lald, o_aald, o_iast, o_bast, o_last, o_aast, o_alen, o_newa, o_new, o_mna, o_cast, o_calls, o_callv, o_calli, o_oinit, o_getC, o_refp, o_cpi, o_cpo, o_mmax, o_mmin, o_lmin, o_iret, o_zret, o_lret, o_aret, o_vret, jd_lo, jd_la, jd_nl, jd_pop, List.length_cons, List.length_nil, List.set_cons_zero, List.set_cons_succ, List.getElem?_cons_zero, List.getElem?_cons_succ, List.replicate_succ, List.replicate_zero, List.cons_append, List.nil_append, List.append_nil, Value.category, Option.toList, va_rf, true_implies, false_implies, false_and, and_false, and_true, true_and, and_self, true_or, or_true, false_or, or_false, not_true_eq_false, not_false_eq_true, forall_const, implies_true, if_true, if_false, reduceCtorEq, reduceIte, Nat.reduceAdd, Nat.reduceMul, Nat.reduceSub, Nat.reduceDiv, Nat.reduceMod, Nat.reduceEqDiff, Nat.reduceLeDiff, Nat.reduceLT, Nat.zero_le, Nat.lt_add_one, Nat.le_refl, Nat.sub_zero, Nat.zero_lt_succ, ge_iff_le, ji_m2, ji_m1, ji_0, ji_1, ji_2, ji_3, ji_4, ji_5, ji_6, ji_7, ji_8, ji_10, ji_12, ji_29, ji_30, ji_31, ji_40, ji_60, ji_70, ji_80, ji_81, ji_360, ji_512, ji_972, ji_1000000, ji_2147483639, jl_m1, jl_0, jl_1, hnle, cJ2.1.1, hp, o2.1.1, r7, k7, l7, v7, hr0, jn_in hi81 (by decide), jn_cl hi81 (by decide), jn_sc]
      refine ih (i0 + 1) h2 (by omega) hF h2i h2b h2c (fun i hi => ?_)
      rw [hA i hi]
      by_cases e : i = i0
      · subst e
        rw [if_neg (by omega), if_pos (by omega)]
        congr 1
        unfold aStep
        rw [if_neg (fun w => w.2 hr0)]
      · by_cases e2 : i < i0
        · rw [if_pos e2, if_pos (by omega)]
        · rw [if_neg e2, if_neg (by omega)]
    · simp only [e5_132, e5_133, e5_136, e5_139, e5_140, e5_143, e5_144, e5_145, e5_148, e5_149, e5_152, e5_153, e5_154, e5_157, e5_158, e5_159, e5_160, e5_163, e5_164, e5_165, e5_166, e5_167, e5_170, o_iload, o_lload, o_aload, o_istore, o_lstore, o_astore, o_iinc, o_ipush, o_lpush, o_null, o_ibin, o_ineg, o_lbin, o_ldv, o_lneg, o_lcmp, o_i2l, o_l2i, o_dup, o_pop, o_dupx, o_dup2, o_ic, o_iz, o_nul, o_acmp, o_tsw, o_gI, o_gR, o_pI, o_pZ, o_pR, o_iald, o_bald, o_lald, o_aald, o_iast, o_bast, o_last, o_aast, o_alen, o_newa, o_new, o_mna, o_cast, o_calls, o_callv, o_calli, o_oinit, o_getC, o_refp, o_cpi, o_cpo, o_mmax, o_mmin, o_lmin, o_iret, o_zret, o_lret, o_aret, o_vret, jd_lo, jd_la, jd_nl, jd_pop, List.length_cons, List.length_nil, List.set_cons_zero, List.set_cons_succ, List.getElem?_cons_zero, List.getElem?_cons_succ, List.replicate_succ, List.replicate_zero, List.cons_append, List.nil_append, List.append_nil, Value.category, Option.toList, va_rf, true_implies, false_implies, false_and, and_false, and_true, true_and, and_self, true_or, or_true, false_or, or_false, not_true_eq_false, not_false_eq_true, forall_const, implies_true, if_true, if_false, reduceCtorEq, reduceIte, Nat.reduceAdd, Nat.reduceMul, Nat.reduceSub, Nat.reduceDiv, Nat.reduceMod, Nat.reduceEqDiff, Nat.reduceLeDiff, Nat.reduceLT, Nat.zero_le, Nat.lt_add_one, Nat.le_refl, Nat.sub_zero, Nat.zero_lt_succ, ge_iff_le, ji_m2, ji_m1, ji_0, ji_1, ji_2, ji_3, ji_4, ji_5, ji_6, ji_7, ji_8, ji_10, ji_12, ji_29, ji_30, ji_31, ji_40, ji_60, ji_70, ji_80, ji_81, ji_360, ji_512, ji_972, ji_1000000, ji_2147483639, jl_m1, jl_0, jl_1, rw_KI, rw_II, rw_RI, rw_LI, rw_AI, rw_JI, rw_OI, rw_KR, rw_IR, rw_RR, rw_LR, rw_AR, rw_JR, rw_OR, rw_KA, rw_IA, rw_RA, rw_LA, rw_AA, rw_JA, rw_OA, rw_KJ, rw_IJ, rw_RJ, rw_LJ, rw_AJ, rw_JJ, rw_OJ, rw_KO, rw_IO, rw_RO, rw_LO, rw_AO, rw_JO, rw_OO, rw_KAr, rw_IAr, rw_RAr, rw_LAr, rw_AAr, rw_JAr, rw_OAr, rw_KOr, rw_IOr, rw_ROr, rw_LOr, rw_AOr, rw_JOr, rw_OOr, rw_KN, rw_IN, rw_RN, rw_LN, rw_AN, rw_JN, rw_ON, rw_KY, rw_IY, rw_RY, rw_LY, rw_AY, rw_JY, rw_OY, hnle, cJ2.1.1, cJ2.2.1.1, cJ2.2.1.2.1, cJ2.2.1.2.2.1, cJ2.2.2.1.1, cJ2.2.2.1.2.1, cJ2.2.2.1.2.2.1, L1, L2, L3, hp, o2.1.1, r7, k7, l7, v7, hr0, vP, vB, hsub, jn_in hi81 (by decide), jn_cl hi81 (by decide), jn_sc]
      refine ih (i0 + 1) _ (by omega) (JF_A hF (by omega)) h2i ((wA_na n21).trans h2b) ((wA_na n31).trans h2c) (fun i hi => ?_)
      rw [rw_AA]
      by_cases e : i = i0
      · subst e
        rw [if_pos ⟨rfl, rfl⟩, if_pos (by omega)]
        congr 1
        unfold aStep
        rw [if_pos ⟨by rw [hcn]; omega, hr0⟩]
      · rw [if_neg (fun w => e w.2), hA i hi]
        by_cases e2 : i < i0
        · rw [if_pos e2, if_pos (by omega)]
        · rw [if_neg e2, if_neg (by omega)]
set_option maxRecDepth 100000 in
theorem k_cadj (hI : IV pp s n lo na p) (hJ : JV q s n na p) (ha : a < na) (hao : ¬ nI a = ou) (c : cAJ h tg ad aj v n a s H) (hH : ∀ i, i < n → H i + nn (s.2.2.1 2 a i) ≤ 1000000)
    (hQ : ∀ h2, JF aj h h2 → zI h2 196 (aj 0) = nI n → zI h2 197 (aj 0) = nI (aEx s ou H a) → zI h2 198 (aj 0) = nI (aSu s ou H a) → zI h2 199 (aj 0) = nI (sm (aPart s ou H a) 81) → (∀ i, i < n → zA h2 (aj 1) i = nI (aStep s ou H a i) ∧ zA h2 (aj 2) i = nI (aPart s ou H a i) ∧ zA h2 (aj 3) i = nI (aBo s ou H a i)) → Q none h2) :
    jd_WM g (d + 3) 5 [.ref (aj 0), .ref (ad 6 a)] h Q := by
  refine ⟨Nat.le_of_ble_eq_true rfl, ?_⟩; show jd_w g (d + 2) 5 Q 0 [some (.ref (aj 0)), some (.ref (ad 6 a)), none, none] [] h 0 0
  have hn81 := IV_81 hI
  have hn1 := hI.1.2.1
  have hcn := IV_cn hI
  have c' := c
  obtain ⟨cJ, c196, cH, o, cc⟩ := c'
  have pz : ∀ i, n ≤ i → aPart s ou H a i = 0 := fun i hi => if_neg (fun w => by have := w.1; omega)
  have oz : ∀ i, n ≤ i → (if aRi s a i then H i else 0) = 0 := fun i hi => if_neg (fun w => by have := w.1; omega)
  have sp81 : sm (aPart s ou H a) 81 = sm (aPart s ou H a) n := sm81 hn81 pz
  have so81 : aOwn s H a = sm (fun i => if aRi s a i then H i else 0) n := sm81 hn81 oz
  have pb : ∀ i, aPart s ou H a i ≤ 1000000 := fun i => by
    unfold aPart
    split
    · next hr =>
      have h1 := hH i (by have := hr.1; omega)
      have h2 := aGood_le (s := s) (ou := ou) a i
      omega
    · omega
  have bpa : sm (aPart s ou H a) 81 ≤ 81 * 1000000 := sm_b 81 (fun i _ => pb i)
  have bow : aOwn s H a ≤ sm (aPart s ou H a) 81 := by rw [aPart_add]; omega
  have bsp : sm (aSp s ou a) 30 ≤ 30 * 1000000 := sm_b 30 (fun o ho => aSp_le hI hJ ha ho)
  have bsu := aSu_le (s := s) (ou := ou) H a
  simp only [e5_0, e5_1, e5_2, e5_3, e5_4, e5_7, e5_8, o_iload, o_lload, o_aload, o_istore, o_lstore, o_astore, o_iinc, o_ipush, o_lpush, o_null, o_ibin, o_ineg, o_lbin, o_ldv, o_lneg, o_lcmp, o_i2l, o_l2i, o_dup, o_pop, o_dupx, o_dup2, o_ic, o_iz, o_nul, o_acmp, o_tsw, o_gI, o_gR, o_pI, o_pZ, o_pR, o_iald, o_bald, o_lald, o_aald, o_iast, o_bast, o_last, o_aast, o_alen, o_newa, o_new, o_mna, o_cast, o_calls, o_callv, o_calli, o_oinit, o_getC, o_refp, o_cpi, o_cpo, o_mmax, o_mmin, o_lmin, o_iret, o_zret, o_lret, o_aret, o_vret, jd_lo, jd_la, jd_nl, jd_pop, List.length_cons, List.length_nil, List.set_cons_zero, List.set_cons_succ, List.getElem?_cons_zero, List.getElem?_cons_succ, List.replicate_succ, List.replicate_zero, List.cons_append, List.nil_append, List.append_nil, Value.category, Option.toList, va_rf, true_implies, false_implies, false_and, and_false, and_true, true_and, and_self, true_or, or_true, false_or, or_false, not_true_eq_false, not_false_eq_true, forall_const, implies_true, if_true, if_false, reduceCtorEq, reduceIte, Nat.reduceAdd, Nat.reduceMul, Nat.reduceSub, Nat.reduceDiv, Nat.reduceMod, Nat.reduceEqDiff, Nat.reduceLeDiff, Nat.reduceLT, Nat.zero_le, Nat.lt_add_one, Nat.le_refl, Nat.sub_zero, Nat.zero_lt_succ, ge_iff_le, ji_m2, ji_m1, ji_0, ji_1, ji_2, ji_3, ji_4, ji_5, ji_6, ji_7, ji_8, ji_10, ji_12, ji_29, ji_30, ji_31, ji_40, ji_60, ji_70, ji_80, ji_81, ji_360, ji_512, ji_972, ji_1000000, ji_2147483639, jl_m1, jl_0, jl_1, rw_KI, rw_II, rw_RI, rw_LI, rw_AI, rw_JI, rw_OI, rw_KR, rw_IR, rw_RR, rw_LR, rw_AR, rw_JR, rw_OR, rw_KA, rw_IA, rw_RA, rw_LA, rw_AA, rw_JA, rw_OA, rw_KJ, rw_IJ, rw_RJ, rw_LJ, rw_AJ, rw_JJ, rw_OJ, rw_KO, rw_IO, rw_RO, rw_LO, rw_AO, rw_JO, rw_OO, rw_KAr, rw_IAr, rw_RAr, rw_LAr, rw_AAr, rw_JAr, rw_OAr, rw_KOr, rw_IOr, rw_ROr, rw_LOr, rw_AOr, rw_JOr, rw_OOr, rw_KN, rw_IN, rw_RN, rw_LN, rw_AN, rw_JN, rw_ON, rw_KY, rw_IY, rw_RY, rw_LY, rw_AY, rw_JY, rw_OY, cJ.1.1]
  have hF0 : JF aj h (wI h 199 (aj 0) 0) := JF_I JF_r (by decide) (by decide)
  have hG0 := JF_AG hF0 cJ
  have c0 : cAJ (wI h 199 (aj 0) 0) tg ad aj v n a s H := ⟨JF_J hF0 cJ, (wI_ne (by decide)).trans c196, cH, cAo_fr o hG0 (by unfold Tg; omega), cAc_fr o cc hG0 (by unfold Tg; omega) (by unfold Tg; omega) (by unfold Tg; omega) (by unfold Tg; omega) (by unfold Tg; omega)⟩
  refine l_ca1 hI hJ ha hao c0 (fun h2 hF2 h2a h2p h2q h2r => ?_) n 0 _ (by omega) JF_r rfl ((wI_ne (by decide)).trans c196) wI_s (fun i hi => by omega)
  have cJ2 := JF_J hF2 c0.1
  have hG2 := JF_AG hF2 c0.1
  have o2 := cAo_fr c0.2.2.2.1 hG2 (by unfold Tg; omega)
  have cc2 := cAc_fr c0.2.2.2.1 c0.2.2.2.2 hG2 (by unfold Tg; omega) (by unfold Tg; omega) (by unfold Tg; omega) (by unfold Tg; omega) (by unfold Tg; omega)
  have e135 : zI h2 135 (ad 6 a) = nI (sm (aSp s ou a) 30) := by
    rw [cc2.2.2.1]
    refine si_sm 30 (fun o ho => ?_)
    unfold aSp
    rw [if_neg hao]
    exact (aSp_b hI hJ ha ho).2
  have emin : (if nI (sm (fun i => if aRi s a i then H i else 0) n) < nI (sm (aSp s ou a) 30) then nI (sm (fun i => if aRi s a i then H i else 0) n) else nI (sm (aSp s ou a) 30)) = nI (aEx s ou H a) := by
    rw [← so81]
    unfold aEx
    by_cases hc : aOwn s H a < sm (aSp s ou a) 30
    · rw [if_pos (nI_lt hc (by omega)), Nat.min_eq_right (by omega)]
    · rw [if_neg (nI_nlt (by omega) (by omega)), Nat.min_eq_left (by omega)]
  have esu : nI (aEx s ou H a) + nI (sm (aPart s ou H a) n) - nI (sm (fun i => if aRi s a i then H i else 0) n) = nI (aSu s ou H a) := by
    rw [← so81, ← sp81, aPart_add, nI_add, pk_sub (by omega)]
    congr 1
    unfold aSu
    omega
  have nd : ¬ ad 6 a = aj 0 := fun z => by
    have := o2.1.1
    rw [z, cJ2.1.1] at this
    exact absurd this (by decide)
  simp only [e5_82, e5_83, e5_84, e5_87, e5_88, e5_91, e5_94, e5_95, e5_96, e5_99, e5_100, e5_103, e5_104, e5_105, e5_106, e5_109, e5_110, e5_111, e5_114, e5_115, e5_118, e5_119, e5_122, e5_123, e5_126, o_iload, o_lload, o_aload, o_istore, o_lstore, o_astore, o_iinc, o_ipush, o_lpush, o_null, o_ibin, o_ineg, o_lbin, o_ldv, o_lneg, o_lcmp, o_i2l, o_l2i, o_dup, o_pop, o_dupx, o_dup2, o_ic, o_iz, o_nul, o_acmp, o_tsw, o_gI, o_gR, o_pI, o_pZ, o_pR, o_iald, o_bald, o_lald, o_aald, o_iast, o_bast, o_last, o_aast, o_alen, o_newa, o_new, o_mna, o_cast, o_calls, o_callv, o_calli, o_oinit, o_getC, o_refp, o_cpi, o_cpo, o_mmax, o_mmin, o_lmin, o_iret, o_zret, o_lret, o_aret, o_vret, jd_lo, jd_la, jd_nl, jd_pop, List.length_cons, List.length_nil, List.set_cons_zero, List.set_cons_succ, List.getElem?_cons_zero, List.getElem?_cons_succ, List.replicate_succ, List.replicate_zero, List.cons_append, List.nil_append, List.append_nil, Value.category, Option.toList, va_rf, true_implies, false_implies, false_and, and_false, and_true, true_and, and_self, true_or, or_true, false_or, or_false, not_true_eq_false, not_false_eq_true, forall_const, implies_true, if_true, if_false, reduceCtorEq, reduceIte, Nat.reduceAdd, Nat.reduceMul, Nat.reduceSub, Nat.reduceDiv, Nat.reduceMod, Nat.reduceEqDiff, Nat.reduceLeDiff, Nat.reduceLT, Nat.zero_le, Nat.lt_add_one, Nat.le_refl, Nat.sub_zero, Nat.zero_lt_succ, ge_iff_le, ji_m2, ji_m1, ji_0, ji_1, ji_2, ji_3, ji_4, ji_5, ji_6, ji_7, ji_8, ji_10, ji_12, ji_29, ji_30, ji_31, ji_40, ji_60, ji_70, ji_80, ji_81, ji_360, ji_512, ji_972, ji_1000000, ji_2147483639, jl_m1, jl_0, jl_1, rw_KI, rw_II, rw_RI, rw_LI, rw_AI, rw_JI, rw_OI, rw_KR, rw_IR, rw_RR, rw_LR, rw_AR, rw_JR, rw_OR, rw_KA, rw_IA, rw_RA, rw_LA, rw_AA, rw_JA, rw_OA, rw_KJ, rw_IJ, rw_RJ, rw_LJ, rw_AJ, rw_JJ, rw_OJ, rw_KO, rw_IO, rw_RO, rw_LO, rw_AO, rw_JO, rw_OO, rw_KAr, rw_IAr, rw_RAr, rw_LAr, rw_AAr, rw_JAr, rw_OAr, rw_KOr, rw_IOr, rw_ROr, rw_LOr, rw_AOr, rw_JOr, rw_OOr, rw_KN, rw_IN, rw_RN, rw_LN, rw_AN, rw_JN, rw_ON, rw_KY, rw_IY, rw_RY, rw_LY, rw_AY, rw_JY, rw_OY, cJ2.1.1, cJ2.2.1.2.1, cJ2.2.1.2.2.1, o2.1.1, e135, emin, h2p, h2q, esu]
  generalize h3e : wI (wI h2 197 (aj 0) (nI (aEx s ou H a))) 198 (aj 0) (nI (aSu s ou H a)) = h3
  have hF3 : JF aj h2 h3 := by rw [← h3e]; exact JF_I (JF_I JF_r (by decide) (by decide)) (by decide) (by decide)
  have cJ3 := JF_J hF3 cJ2
  have a3 : zA h3 = zA h2 := by rw [← h3e]; rfl
  have i3 : zI h3 196 (aj 0) = nI n ∧ zI h3 197 (aj 0) = nI (aEx s ou H a) ∧ zI h3 198 (aj 0) = nI (aSu s ou H a) ∧ zI h3 199 (aj 0) = nI (sm (aPart s ou H a) n) := by
    rw [← h3e]
    refine ⟨?_, ?_, ?_, ?_⟩
    · rw [wI_ne (by decide), wI_ne (by decide)]; exact h2p
    · rw [wI_ne (by decide), wI_s]
    · rw [wI_s]
    · rw [wI_ne (by decide), wI_ne (by decide)]; exact h2q
  have ll : ∀ k, 1 ≤ k → k ≤ 4 → zL h3 (aj k) = 81 := fun k h1 h2 => (cJ3.2.2.2 k h1 h2).1
  refine k_cdiv (d := d) (c := aj 4) (W := aPart s ou H a) cJ3.1.1 cJ3.2.1.2.2.2 cJ3.2.2.1.2.1 cJ3.2.2.1.2.2.1 cJ3.2.2.1.2.2.2 (by rw [ll 2 (by decide) (by decide)]; exact hn81) (by rw [ll 3 (by decide) (by decide)]; exact hn81) (by rw [ll 4 (by decide) (by decide)]; exact hn81) hn1 hn81 (by rw [ll 2 (by decide) (by decide)]; exact Nat.le_refl _) (by rw [ll 3 (by decide) (by decide)]; exact Nat.le_refl _) (by rw [ll 4 (by decide) (by decide)]; exact Nat.le_refl _) (cVJ_ne cJ3 (by decide) (by decide) (by decide)) (fun i hi => ⟨by rw [a3]; exact h2r i hi, pb i⟩) (by omega) (fun h4 hT4 h4t h4o => ?_)
  have hF4 := JF_D hT4
  have hFF : JF aj h h4 := JF_t hF0 (JF_t hF2 (JF_t hF3 hF4))
  have cJ4 := JF_J hF4 cJ3
  have hG4 := JF_AG hFF cJ
  have n23 : ¬ aj 2 = aj 3 := cVJ_ne cJ (by decide) (by decide) (by decide)
  have n13 : ¬ aj 1 = aj 3 := cVJ_ne cJ (by decide) (by decide) (by decide)
  have bo4 : ∀ i, i < n → zA h4 (aj 3) i = nI (aBo s ou H a i) := fun i hi => by
    rw [h4t i hi]
    have := dv_ext (S := aSu s ou H a) (W := aPart s ou H a) (n := n) (m := 81 - n) hn1 (fun i h1 _ => pz i h1)
    rw [show n + (81 - n) = 81 by omega] at this
    unfold aBo
    rw [this]
  have pa4 : ∀ i, i < n → zA h4 (aj 2) i = nI (aPart s ou H a i) := fun i hi => by
    rw [hT4.2.2.2.2.2.1 _ n23, a3]; exact h2r i hi
  have ha4 : ∀ i, i < n → zA h4 (aj 1) i = nI (H i) := fun i hi => by
    rw [hT4.2.2.2.2.2.1 _ n13, a3, h2a]; exact cH i hi
  have c4 : cAJ h4 tg ad aj v n a s H := ⟨cJ4, by rw [hT4.2.1]; exact i3.1, ha4, cAo_fr o hG4 (by unfold Tg; omega), cAc_fr o cc hG4 (by unfold Tg; omega) (by unfold Tg; omega) (by unfold Tg; omega) (by unfold Tg; omega) (by unfold Tg; omega)⟩
  simp only [e5_129, e5_130, o_iload, o_lload, o_aload, o_istore, o_lstore, o_astore, o_iinc, o_ipush, o_lpush, o_null, o_ibin, o_ineg, o_lbin, o_ldv, o_lneg, o_lcmp, o_i2l, o_l2i, o_dup, o_pop, o_dupx, o_dup2, o_ic, o_iz, o_nul, o_acmp, o_tsw, o_gI, o_gR, o_pI, o_pZ, o_pR, o_iald, o_bald, o_lald, o_aald, o_iast, o_bast, o_last, o_aast, o_alen, o_newa, o_new, o_mna, o_cast, o_calls, o_callv, o_calli, o_oinit, o_getC, o_refp, o_cpi, o_cpo, o_mmax, o_mmin, o_lmin, o_iret, o_zret, o_lret, o_aret, o_vret, jd_lo, jd_la, jd_nl, jd_pop, List.length_cons, List.length_nil, List.set_cons_zero, List.set_cons_succ, List.getElem?_cons_zero, List.getElem?_cons_succ, List.replicate_succ, List.replicate_zero, List.cons_append, List.nil_append, List.append_nil, Value.category, Option.toList, va_rf, true_implies, false_implies, false_and, and_false, and_true, true_and, and_self, true_or, or_true, false_or, or_false, not_true_eq_false, not_false_eq_true, forall_const, implies_true, if_true, if_false, reduceCtorEq, reduceIte, Nat.reduceAdd, Nat.reduceMul, Nat.reduceSub, Nat.reduceDiv, Nat.reduceMod, Nat.reduceEqDiff, Nat.reduceLeDiff, Nat.reduceLT, Nat.zero_le, Nat.lt_add_one, Nat.le_refl, Nat.sub_zero, Nat.zero_lt_succ, ge_iff_le, ji_m2, ji_m1, ji_0, ji_1, ji_2, ji_3, ji_4, ji_5, ji_6, ji_7, ji_8, ji_10, ji_12, ji_29, ji_30, ji_31, ji_40, ji_60, ji_70, ji_80, ji_81, ji_360, ji_512, ji_972, ji_1000000, ji_2147483639, jl_m1, jl_0, jl_1]
  refine l_ca2 hI c4 pa4 bo4 (fun h5 hF5 h5i h5b h5c h5a => ?_) n 0 h4 (by omega) JF_r rfl rfl rfl (fun i hi => by rw [ha4 i hi, if_neg (by omega)])
  refine hQ h5 (JF_t hFF hF5) ?_ ?_ ?_ ?_ (fun i hi => ⟨h5a i hi, by rw [h5b]; exact pa4 i hi, by rw [h5c]; exact bo4 i hi⟩)
  · rw [h5i, hT4.2.1]; exact i3.1
  · rw [h5i, hT4.2.1]; exact i3.2.1
  · rw [h5i, hT4.2.1]; exact i3.2.2.1
  · rw [h5i, hT4.2.1, sp81]; exact i3.2.2.2
end
