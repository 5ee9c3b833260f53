/-! the class: the settlement -/
/-- only the settlement is written -/
def SF (ad : Nat → Nat → Nat) (h h' : jd_H) : Prop := zK h' = zK h ∧ zR h' = zR h ∧ zL h' = zL h ∧ zO h' = zO h ∧ zJ h' = zJ h ∧ (∀ f b, ¬ (b = ad 17 0 ∧ f = 388) → zI h' f b = zI h f b) ∧ ∀ b, (∀ k, 18 ≤ k → k ≤ 22 → b ≠ ad k 0) → zA h' b = zA h b
theorem nI_ofInt (x : Nat) : Int32.ofInt (x : Int) = nI x := Int32.ofInt_eq_ofNat
theorem jI_le {x y : Int} (hx : -984000000 ≤ x ∧ x ≤ 984000000) (hy : -984000000 ≤ y ∧ y ≤ 984000000) : (Int32.ofInt x ≤ Int32.ofInt y) = (x ≤ y) := by
  refine propext ?_
  rw [Int32.le_iff_toInt_le, Int32.toInt_ofInt_of_le (by omega) (by omega), Int32.toInt_ofInt_of_le (by omega) (by omega)]
theorem jI_lt {x y : Int} (hx : -984000000 ≤ x ∧ x ≤ 984000000) (hy : -984000000 ≤ y ∧ y ≤ 984000000) : (Int32.ofInt x < Int32.ofInt y) = (x < y) := by
  refine propext ?_
  rw [Int32.lt_iff_toInt_lt, Int32.toInt_ofInt_of_le (by omega) (by omega), Int32.toInt_ofInt_of_le (by omega) (by omega)]
section
variable {ad : Nat → Nat → Nat} {tg : Nat → Nat} {h h1 h2 : jd_H} {v : Nat}
theorem SF_r : SF ad h h := ⟨rfl, rfl, rfl, rfl, rfl, fun _ _ _ => rfl, fun _ _ => rfl⟩
theorem SF_t (a : SF ad h h1) (b : SF ad h1 h2) : SF ad h h2 := ⟨b.1.trans a.1, b.2.1.trans a.2.1, b.2.2.1.trans a.2.2.1, b.2.2.2.1.trans a.2.2.2.1, b.2.2.2.2.1.trans a.2.2.2.2.1, fun f x p => (b.2.2.2.2.2.1 f x p).trans (a.2.2.2.2.2.1 f x p), fun x p => (b.2.2.2.2.2.2 x p).trans (a.2.2.2.2.2.2 x p)⟩
theorem SF_I {x : Int32} (a : SF ad h h1) : SF ad h (wI h1 388 (ad 17 0) x) := SF_t a ⟨rfl, rfl, rfl, rfl, rfl, fun p b q => by rw [rw_II, if_neg (fun z => q ⟨z.2, z.1⟩)], fun _ _ => rfl⟩
theorem SF_A {k i : Nat} {x : Int32} (a : SF ad h h1) (h1k : 18 ≤ k) (h2k : k ≤ 22) : SF ad h (wA h1 (ad k 0) i x) := SF_t a ⟨rfl, rfl, rfl, rfl, rfl, fun _ _ _ => rfl, fun b q => wA_na (q k h1k h2k)⟩
theorem SF_S (a : SF ad h h1) (c : cVS h tg ad v) : cVS h1 tg ad v := by
  unfold cVS at c ⊢
  rw [a.1, a.2.1, a.2.2.1]
  exact c
theorem cVS_ne (c : cVS h tg ad v) {j k : Nat} (hj : 18 ≤ j ∧ j ≤ 22) (hk : 18 ≤ k ∧ k ≤ 22) (hjk : j ≠ k) : ¬ ad j 0 = ad k 0 := fun z => by
  have h1 := (c.2.2 j hj.1 hj.2).2.2
  rw [z, (c.2.2 k hk.1 hk.2).2.2] at h1
  unfold Tg at h1
  omega
theorem SF_AG (a : SF ad h h1) (c : cVS h tg ad v) : AG (fun u => ∀ k, 17 ≤ k → k ≤ 22 → u ≠ Tg v k 0) h h1 tg tg := fun b hb => by
  refine ⟨by rw [a.1], by rw [a.2.2.1], rfl, fun hp => ⟨fun f => a.2.2.2.2.2.1 f b (fun z => ?_), fun f => by rw [a.2.1], a.2.2.2.2.2.2 b (fun k h1 h2 z => ?_), by rw [a.2.2.2.2.1], by rw [a.2.2.2.1]⟩⟩
  · exact hp 17 (by decide) (by decide) (by rw [z.1]; exact c.1.2)
  · exact hp k (by omega) h2 (by rw [z]; exact (c.2.2 k h1 h2).2.2)
end
section
variable {g d : Nat} {h : jd_H} {Q : jd_Q} {tg aj : Nat → Nat} {ad : Nat → Nat → Nat} {v n lo na p q a : Nat} {pp : Int32} {s : VS} {B : Nat → Int}
set_option maxRecDepth 100000 in
theorem l_fill {x L : Nat} {y : Int32} (kx : zK h x = 10) (lx : zL h x = L) (hL : L < 2147483648) (hQ : ∀ h2, zK h2 = zK h → zI h2 = zI h → zR h2 = zR h → zL h2 = zL h → zJ h2 = zJ h → zO h2 = zO h → (∀ b, b ≠ x → zA h2 b = zA h b) → (∀ i, i < L → zA h2 x i = y) → Q none h2) :
    ∀ (r i0 : Nat) (h2 : jd_H), i0 + r = L → zK h2 = zK h → zI h2 = zI h → zR h2 = zR h → zL h2 = zL h → zJ h2 = zJ h → zO h2 = zO h → (∀ b, b ≠ x → zA h2 b = zA h b) → (∀ i, i < i0 → zA h2 x i = y) → jd_w g d 133 Q 5 [some (.ref x), some (.int y), some (.int (nI i0)), some (.int (nI L))] [] h2 0 0 := by
  intro r
  induction r with
  | zero =>
    intro i0 h2 hi e1 e2 e3 e4 e5 e6 e7 e8
    have hin : i0 = L := by omega
    subst hin
    simp only [e133_5, e133_6, e133_7, e133_20, o_iload, o_lload, o_aload, o_istore, o_lstore, o_astore, o_iinc, o_ipush, o_lpush, o_null, o_ibin, o_ineg, o_lbin, o_ldv, o_lneg, o_lcmp, o_i2l, o_l2i, o_dup, o_pop, o_dupx, o_dup2, o_ic, o_iz, o_nul, o_acmp, o_tsw, o_gI, o_gR, o_pI, o_pZ, o_pR, o_iald, o_bald, o_lald, o_aald, o_iast, o_bast, o_last, o_aast, o_alen, o_newa, o_new, o_mna, o_cast, o_calls, o_callv, o_calli, o_oinit, o_getC, o_refp, o_cpi, o_cpo, o_mmax, o_mmin, o_lmin, o_iret, o_zret, o_lret, o_aret, o_vret, jd_lo, jd_la, jd_nl, jd_pop, List.length_cons, List.length_nil, List.set_cons_zero, List.set_cons_succ, List.getElem?_cons_zero, List.getElem?_cons_succ, List.replicate_succ, List.replicate_zero, List.cons_append, List.nil_append, List.append_nil, Value.category, Option.toList, va_rf, true_implies, false_implies, false_and, and_false, and_true, true_and, and_self, true_or, or_true, false_or, or_false, not_true_eq_false, not_false_eq_true, forall_const, implies_true, if_true, if_false, reduceCtorEq, reduceIte, Nat.reduceAdd, Nat.reduceMul, Nat.reduceSub, Nat.reduceDiv, Nat.reduceMod, Nat.reduceEqDiff, Nat.reduceLeDiff, Nat.reduceLT, Nat.zero_le, Nat.lt_add_one, Nat.le_refl, Nat.sub_zero, Nat.zero_lt_succ, ge_iff_le, ji_m2, ji_m1, ji_0, ji_1, ji_2, ji_3, ji_4, ji_5, ji_6, ji_7, ji_8, ji_10, ji_12, ji_29, ji_30, ji_31, ji_40, ji_60, ji_70, ji_80, ji_81, ji_360, ji_512, ji_972, ji_1000000, ji_2147483639, jl_m1, jl_0, jl_1]
    exact ⟨fun _ => hQ h2 e1 e2 e3 e4 e5 e6 e7 e8, fun w => absurd (Int32.le_refl _) w⟩
  | succ r ih =>
    intro i0 h2 hi e1 e2 e3 e4 e5 e6 e7 e8
    have hnle : ¬ nI L ≤ nI i0 := nI_ge (by omega) (by omega)
    have k2 : zK h2 x = 10 := by rw [e1]; exact kx
    have ix : i0 < zL h2 x := by rw [e4, lx]; omega
    have bx : zL h2 x < 2147483648 := by rw [e4, lx]; exact hL
    rw [e133_5]
    simp only [e133_6, e133_7, e133_10, e133_11, e133_12, e133_13, e133_14, e133_17, o_iload, o_lload, o_aload, o_istore, o_lstore, o_astore, o_iinc, o_ipush, o_lpush, o_null, o_ibin, o_ineg, o_lbin, o_ldv, o_lneg, o_lcmp, o_i2l, o_l2i, o_dup, o_pop, o_dupx, o_dup2, o_ic, o_iz, o_nul, o_acmp, o_tsw, o_gI, o_gR, o_pI, o_pZ, o_pR, o_iald, o_bald, o_lald, o_aald, o_iast, o_bast, o_last, o_aast, o_alen, o_newa, o_new, o_mna, o_cast, o_calls, o_callv, o_calli, o_oinit, o_getC, o_refp, o_cpi, o_cpo, o_mmax, o_mmin, o_lmin, o_iret, o_zret, o_lret, o_aret, o_vret, jd_lo, jd_la, jd_nl, jd_pop, List.length_cons, List.length_nil, List.set_cons_zero, List.set_cons_succ, List.getElem?_cons_zero, List.getElem?_cons_succ, List.replicate_succ, List.replicate_zero, List.cons_append, List.nil_append, List.append_nil, Value.category, Option.toList, va_rf, true_implies, false_implies, false_and, and_false, and_true, true_and, and_self, true_or, or_true, false_or, or_false, not_true_eq_false, not_false_eq_true, forall_const, implies_true, if_true, if_false, reduceCtorEq, reduceIte, Nat.reduceAdd, Nat.reduceMul, Nat.reduceSub, Nat.reduceDiv, Nat.reduceMod, Nat.reduceEqDiff, Nat.reduceLeDiff, Nat.reduceLT, Nat.zero_le, Nat.lt_add_one, Nat.le_refl, Nat.sub_zero, Nat.zero_lt_succ, ge_iff_le, ji_m2, ji_m1, ji_0, ji_1, ji_2, ji_3, ji_4, ji_5, ji_6, ji_7, ji_8, ji_10, ji_12, ji_29, ji_30, ji_31, ji_40, ji_60, ji_70, ji_80, ji_81, ji_360, ji_512, ji_972, ji_1000000, ji_2147483639, jl_m1, jl_0, jl_1, hnle, k2, jn_in ix bx, jn_cl ix bx, jn_sc]
    refine ih (i0 + 1) _ (by omega) e1 e2 e3 e4 e5 e6 (fun b hb => (wA_na hb).trans (e7 b hb)) (fun i hi => ?_)
    rw [rw_AA]
    by_cases e : i = i0
    · rw [if_pos ⟨rfl, e⟩]
    · rw [if_neg (fun w => e w.2)]; exact e8 i (by omega)
set_option maxRecDepth 100000 in
theorem k_fill {x L : Nat} {y : Int32} (kx : zK h x = 10) (lx : zL h x = L) (hL : L < 2147483648) (hQ : ∀ h2, zK h2 = zK h → zI h2 = zI h → zR h2 = zR h → zL h2 = zL h → zJ h2 = zJ h → zO h2 = zO h → (∀ b, b ≠ x → zA h2 b = zA h b) → (∀ i, i < L → zA h2 x i = y) → Q none h2) : jd_WM g (d + 1) 133 [.ref x, .int y] h Q := by
  refine ⟨Nat.le_of_ble_eq_true rfl, ?_⟩; show jd_w g d 133 Q 0 [some (.ref x), some (.int y), none, none] [] h 0 0
  simp only [e133_0, e133_1, e133_2, e133_3, e133_4, o_iload, o_lload, o_aload, o_istore, o_lstore, o_astore, o_iinc, o_ipush, o_lpush, o_null, o_ibin, o_ineg, o_lbin, o_ldv, o_lneg, o_lcmp, o_i2l, o_l2i, o_dup, o_pop, o_dupx, o_dup2, o_ic, o_iz, o_nul, o_acmp, o_tsw, o_gI, o_gR, o_pI, o_pZ, o_pR, o_iald, o_bald, o_lald, o_aald, o_iast, o_bast, o_last, o_aast, o_alen, o_newa, o_new, o_mna, o_cast, o_calls, o_callv, o_calli, o_oinit, o_getC, o_refp, o_cpi, o_cpo, o_mmax, o_mmin, o_lmin, o_iret, o_zret, o_lret, o_aret, o_vret, jd_lo, jd_la, jd_nl, jd_pop, List.length_cons, List.length_nil, List.set_cons_zero, List.set_cons_succ, List.getElem?_cons_zero, List.getElem?_cons_succ, List.replicate_succ, List.replicate_zero, List.cons_append, List.nil_append, List.append_nil, Value.category, Option.toList, va_rf, true_implies, false_implies, false_and, and_false, and_true, true_and, and_self, true_or, or_true, false_or, or_false, not_true_eq_false, not_false_eq_true, forall_const, implies_true, if_true, if_false, reduceCtorEq, reduceIte, Nat.reduceAdd, Nat.reduceMul, Nat.reduceSub, Nat.reduceDiv, Nat.reduceMod, Nat.reduceEqDiff, Nat.reduceLeDiff, Nat.reduceLT, Nat.zero_le, Nat.lt_add_one, Nat.le_refl, Nat.sub_zero, Nat.zero_lt_succ, ge_iff_le, ji_m2, ji_m1, ji_0, ji_1, ji_2, ji_3, ji_4, ji_5, ji_6, ji_7, ji_8, ji_10, ji_12, ji_29, ji_30, ji_31, ji_40, ji_60, ji_70, ji_80, ji_81, ji_360, ji_512, ji_972, ji_1000000, ji_2147483639, jl_m1, jl_0, jl_1, kx, lx]
  exact l_fill kx lx hL hQ L 0 h (by omega) rfl rfl rfl rfl rfl rfl (fun _ _ => rfl) (fun i hi => by omega)
theorem bD_val (hI : IV pp s n lo na p) (hJ : JV q s n na p) (ha : a < na) {i : Nat} (hi : i < n) : s.2.2.1 2 a i - nI (aBo s (-1) (hA s (-1) a) a i) = Int32.ofInt (bD s a i) := by
  have hn81 := IV_81 hI
  obtain ⟨g1, g2⟩ := aGood_n hI hJ ha (show i < 81 by omega)
  unfold bD
  by_cases hr : aRi s a i
  · rw [if_pos hr, Int32.ofInt_sub, nI_ofInt, nI_ofInt, ← g1]
  · have hr0 : s.2.2.1 0 a i = 0 := Decidable.byContradiction (fun z => hr ⟨by rw [IV_cn hI]; exact hi, z⟩)
    have g0 : s.2.2.1 2 a i = 0 := Decidable.byContradiction (fun z => by
      have := (hJ.2.2.2.2.1 a i ha (by omega)).2.2.1 z
      rw [hr0] at this
      exact absurd this (by decide))
    have b0 : aBo s (-1) (hA s (-1) a) a i = 0 := dv_zero (by unfold aPart; rw [if_neg hr])
    rw [if_neg hr, g0, b0]
    rfl
/-- what is at hand while act a is added to the balances -/
def cSA (h : jd_H) (tg : Nat → Nat) (ad : Nat → Nat → Nat) (v n a : Nat) (s : VS) : Prop := cVS h tg ad v ∧ cVI h tg ad v n s.2.1 ∧ cAo h tg ad v a ∧ (∀ i, i < n → zA h (ad 9 a) i = s.2.2.1 2 a i ∧ zA h (ad 11 a) i = nI (aBo s (-1) (hA s (-1) a) a i)) ∧ ∀ o, o < 30 → zA h (ad 13 a) o = nI (gt s a o)
theorem cAo_cVS {k j : Nat} (o : cAo h tg ad v a) (c : cVS h tg ad v) (hk : k < 7) (h1 : 18 ≤ j) (h2 : j ≤ 22) (ha12 : a < 12) : ¬ ad (7 + k) a = ad j 0 := fun z => by
  have h3 := (o.2 k hk).2.1
  rw [z, (c.2.2 j h1 h2).2.2] at h3
  unfold Tg at h3
  omega
theorem cSA_f {h2 : jd_H} (c : cSA h tg ad v n a s) (hF : SF ad h h2) (hn : n ≤ 81) (ha12 : a < 12) : cSA h2 tg ad v n a s := by
  obtain ⟨c1, c2, c3, c4, c5⟩ := c
  have hG := SF_AG hF c1
  have w : ∀ k, k < 7 → zA h2 (ad (7 + k) a) = zA h (ad (7 + k) a) := fun k hk => hF.2.2.2.2.2.2 _ (fun j h1 h2 => cAo_cVS c3 c1 hk h1 h2 ha12)
  refine ⟨SF_S hF c1, cVI_fr c2 hG (fun k _ _ => by unfold Tg; omega) (fun i hi k _ _ => by unfold Tg; omega), cAo_fr c3 hG (fun k _ _ => by unfold Tg; omega), fun i hi => ?_, fun o ho => ?_⟩
  · have := c4 i hi
    rw [← w 2 (by decide), ← w 4 (by decide)] at this
    exact this
  · have := c5 o ho
    rw [← w 6 (by decide)] at this
    exact this
set_option maxRecDepth 100000 in
theorem l_aa1 (hI : IV pp s n lo na p) (hJ : JV q s n na p) (ha : a < na) (c : cSA h tg ad v n a s)
    (hex : ∀ h2 y, SF ad h h2 → (∀ f, zI h2 f (ad 17 0) = zI h f (ad 17 0)) → (∀ o, o < 30 → zA h2 (ad 18 0) o = Int32.ofInt (bal s a o + bI s a o n)) → jd_w g (d + 3) 16 Q 70 [some (.ref (ad 17 0)), some (.ref (ad 1 0)), some (.ref (ad 6 a)), some (.int (nI n)), y] [] h2 0 0) :
    ∀ (r i0 : Nat) (h2 : jd_H) (y : Option Value), i0 + r = n → SF ad h h2 → (∀ f, zI h2 f (ad 17 0) = zI h f (ad 17 0)) → (∀ o, o < 30 → zA h2 (ad 18 0) o = Int32.ofInt (bal s a o + bI s a o i0)) → jd_w g (d + 3) 16 Q 2 [some (.ref (ad 17 0)), some (.ref (ad 1 0)), some (.ref (ad 6 a)), some (.int (nI i0)), y] [] h2 0 0 := by
  have hn81 := IV_81 hI
  have hna := hI.2.2.1.2
  intro r
  induction r with
  | zero =>
    intro i0 h2 y hi hF hz hB
    have hin : i0 = n := by omega
    subst hin
    have c2 := cSA_f c hF hn81 (by omega)
    rw [e16_2]
    simp only [e16_3, e16_4, o_iload, o_lload, o_aload, o_istore, o_lstore, o_astore, o_iinc, o_ipush, o_lpush, o_null, o_ibin, o_ineg, o_lbin, o_ldv, o_lneg, o_lcmp, o_i2l, o_l2i, o_dup, o_pop, o_dupx, o_dup2, o_ic, o_iz, o_nul, o_acmp, o_tsw, o_gI, o_gR, o_pI, o_pZ, o_pR, o_iald, o_bald, o_lald, o_aald, o_iast, o_bast, o_last, o_aast, o_alen, o_newa, o_new, o_mna, o_cast, o_calls, o_callv, o_calli, o_oinit, o_getC, o_refp, o_cpi, o_cpo, o_mmax, o_mmin, o_lmin, o_iret, o_zret, o_lret, o_aret, o_vret, jd_lo, jd_la, jd_nl, jd_pop, List.length_cons, List.length_nil, List.set_cons_zero, List.set_cons_succ, List.getElem?_cons_zero, List.getElem?_cons_succ, List.replicate_succ, List.replicate_zero, List.cons_append, List.nil_append, List.append_nil, Value.category, Option.toList, va_rf, true_implies, false_implies, false_and, and_false, and_true, true_and, and_self, true_or, or_true, false_or, or_false, not_true_eq_false, not_false_eq_true, forall_const, implies_true, if_true, if_false, reduceCtorEq, reduceIte, Nat.reduceAdd, Nat.reduceMul, Nat.reduceSub, Nat.reduceDiv, Nat.reduceMod, Nat.reduceEqDiff, Nat.reduceLeDiff, Nat.reduceLT, Nat.zero_le, Nat.lt_add_one, Nat.le_refl, Nat.sub_zero, Nat.zero_lt_succ, ge_iff_le, ji_m2, ji_m1, ji_0, ji_1, ji_2, ji_3, ji_4, ji_5, ji_6, ji_7, ji_8, ji_10, ji_12, ji_29, ji_30, ji_31, ji_40, ji_60, ji_70, ji_80, ji_81, ji_360, ji_512, ji_972, ji_1000000, ji_2147483639, jl_m1, jl_0, jl_1, vLS_K c2.2.1.1]
    refine k_lsize (d := d + 2) c2.2.1.1 ?_
    simp only [e16_9, o_iload, o_lload, o_aload, o_istore, o_lstore, o_astore, o_iinc, o_ipush, o_lpush, o_null, o_ibin, o_ineg, o_lbin, o_ldv, o_lneg, o_lcmp, o_i2l, o_l2i, o_dup, o_pop, o_dupx, o_dup2, o_ic, o_iz, o_nul, o_acmp, o_tsw, o_gI, o_gR, o_pI, o_pZ, o_pR, o_iald, o_bald, o_lald, o_aald, o_iast, o_bast, o_last, o_aast, o_alen, o_newa, o_new, o_mna, o_cast, o_calls, o_callv, o_calli, o_oinit, o_getC, o_refp, o_cpi, o_cpo, o_mmax, o_mmin, o_lmin, o_iret, o_zret, o_lret, o_aret, o_vret, jd_lo, jd_la, jd_nl, jd_pop, List.length_cons, List.length_nil, List.set_cons_zero, List.set_cons_succ, List.getElem?_cons_zero, List.getElem?_cons_succ, List.replicate_succ, List.replicate_zero, List.cons_append, List.nil_append, List.append_nil, Value.category, Option.toList, va_rf, true_implies, false_implies, false_and, and_false, and_true, true_and, and_self, true_or, or_true, false_or, or_false, not_true_eq_false, not_false_eq_true, forall_const, implies_true, if_true, if_false, reduceCtorEq, reduceIte, Nat.reduceAdd, Nat.reduceMul, Nat.reduceSub, Nat.reduceDiv, Nat.reduceMod, Nat.reduceEqDiff, Nat.reduceLeDiff, Nat.reduceLT, Nat.zero_le, Nat.lt_add_one, Nat.le_refl, Nat.sub_zero, Nat.zero_lt_succ, ge_iff_le, ji_m2, ji_m1, ji_0, ji_1, ji_2, ji_3, ji_4, ji_5, ji_6, ji_7, ji_8, ji_10, ji_12, ji_29, ji_30, ji_31, ji_40, ji_60, ji_70, ji_80, ji_81, ji_360, ji_512, ji_972, ji_1000000, ji_2147483639, jl_m1, jl_0, jl_1]
    exact ⟨fun _ => hex h2 y hF hz hB, fun w => absurd (Int32.le_refl _) w⟩
  | succ r ih =>
    intro i0 h2 y hi hF hz hB
    have hin : i0 < n := by omega
    have hi81 : i0 < 81 := by omega
    have c2 := cSA_f c hF hn81 (by omega)
    obtain ⟨s1, s2, s3, s4, s5⟩ := c2
    have hnle : ¬ nI n ≤ nI i0 := nI_ge hin (by omega)
    have hnle2 : ¬ nI 81 ≤ nI i0 := nI_ge hi81 (by omega)
    have h10 : ¬ (1 : Int32) = 0 := by decide
    obtain ⟨ki, k0, -⟩ := s2.2 i0 hin
    obtain ⟨w1, w2⟩ := JV_own hJ hin
    have k0' : zI h2 320 (ad 3 i0) = nI (nn (s.2.1 0 i0)) := k0.trans w1
    obtain ⟨m9, m11⟩ := s4 i0 hin
    have r9 : zR h2 130 (ad 6 a) = some (ad 9 a) := cAo_R s3 (k := 2) (by decide)
    have r11 : zR h2 132 (ad 6 a) = some (ad 11 a) := cAo_R s3 (k := 4) (by decide)
    have k9 : zK h2 (ad 9 a) = 10 := (s3.2 2 (by decide)).2.2.1
    have k11 : zK h2 (ad 11 a) = 10 := (s3.2 4 (by decide)).2.2.1
    have l9 : zL h2 (ad 9 a) = 81 := (s3.2 2 (by decide)).2.2.2
    have l11 : zL h2 (ad 11 a) = 81 := (s3.2 4 (by decide)).2.2.2
    have kk := s1.2.2 18 (by decide) (by decide)
    have eb : ∀ o, bI s a o (i0 + 1) = bI s a o i0 + (if nn (s.2.1 0 i0) = o then bD s a i0 else 0) := fun o => rfl
    rw [e16_2]
    simp only [e16_3, e16_4, o_iload, o_lload, o_aload, o_istore, o_lstore, o_astore, o_iinc, o_ipush, o_lpush, o_null, o_ibin, o_ineg, o_lbin, o_ldv, o_lneg, o_lcmp, o_i2l, o_l2i, o_dup, o_pop, o_dupx, o_dup2, o_ic, o_iz, o_nul, o_acmp, o_tsw, o_gI, o_gR, o_pI, o_pZ, o_pR, o_iald, o_bald, o_lald, o_aald, o_iast, o_bast, o_last, o_aast, o_alen, o_newa, o_new, o_mna, o_cast, o_calls, o_callv, o_calli, o_oinit, o_getC, o_refp, o_cpi, o_cpo, o_mmax, o_mmin, o_lmin, o_iret, o_zret, o_lret, o_aret, o_vret, jd_lo, jd_la, jd_nl, jd_pop, List.length_cons, List.length_nil, List.set_cons_zero, List.set_cons_succ, List.getElem?_cons_zero, List.getElem?_cons_succ, List.replicate_succ, List.replicate_zero, List.cons_append, List.nil_append, List.append_nil, Value.category, Option.toList, va_rf, true_implies, false_implies, false_and, and_false, and_true, true_and, and_self, true_or, or_true, false_or, or_false, not_true_eq_false, not_false_eq_true, forall_const, implies_true, if_true, if_false, reduceCtorEq, reduceIte, Nat.reduceAdd, Nat.reduceMul, Nat.reduceSub, Nat.reduceDiv, Nat.reduceMod, Nat.reduceEqDiff, Nat.reduceLeDiff, Nat.reduceLT, Nat.zero_le, Nat.lt_add_one, Nat.le_refl, Nat.sub_zero, Nat.zero_lt_succ, ge_iff_le, ji_m2, ji_m1, ji_0, ji_1, ji_2, ji_3, ji_4, ji_5, ji_6, ji_7, ji_8, ji_10, ji_12, ji_29, ji_30, ji_31, ji_40, ji_60, ji_70, ji_80, ji_81, ji_360, ji_512, ji_972, ji_1000000, ji_2147483639, jl_m1, jl_0, jl_1, vLS_K s2.1]
    refine k_lsize (d := d + 2) s2.1 ?_
    simp only [e16_9, e16_12, e16_13, e16_15, e16_18, e16_19, e16_20, o_iload, o_lload, o_aload, o_istore, o_lstore, o_astore, o_iinc, o_ipush, o_lpush, o_null, o_ibin, o_ineg, o_lbin, o_ldv, o_lneg, o_lcmp, o_i2l, o_l2i, o_dup, o_pop, o_dupx, o_dup2, o_ic, o_iz, o_nul, o_acmp, o_tsw, o_gI, o_gR, o_pI, o_pZ, o_pR, o_iald, o_bald, o_lald, o_aald, o_iast, o_bast, o_last, o_aast, o_alen, o_newa, o_new, o_mna, o_cast, o_calls, o_callv, o_calli, o_oinit, o_getC, o_refp, o_cpi, o_cpo, o_mmax, o_mmin, o_lmin, o_iret, o_zret, o_lret, o_aret, o_vret, jd_lo, jd_la, jd_nl, jd_pop, List.length_cons, List.length_nil, List.set_cons_zero, List.set_cons_succ, List.getElem?_cons_zero, List.getElem?_cons_succ, List.replicate_succ, List.replicate_zero, List.cons_append, List.nil_append, List.append_nil, Value.category, Option.toList, va_rf, true_implies, false_implies, false_and, and_false, and_true, true_and, and_self, true_or, or_true, false_or, or_false, not_true_eq_false, not_false_eq_true, forall_const, implies_true, if_true, if_false, reduceCtorEq, reduceIte, Nat.reduceAdd, Nat.reduceMul, Nat.reduceSub, Nat.reduceDiv, Nat.reduceMod, Nat.reduceEqDiff, Nat.reduceLeDiff, Nat.reduceLT, Nat.zero_le, Nat.lt_add_one, Nat.le_refl, Nat.sub_zero, Nat.zero_lt_succ, ge_iff_le, ji_m2, ji_m1, ji_0, ji_1, ji_2, ji_3, ji_4, ji_5, ji_6, ji_7, ji_8, ji_10, ji_12, ji_29, ji_30, ji_31, ji_40, ji_60, ji_70, ji_80, ji_81, ji_360, ji_512, ji_972, ji_1000000, ji_2147483639, jl_m1, jl_0, jl_1, j81, hnle, hnle2, vLS_K s2.1]
    refine k_lget (d := d) s2.1 hin ?_
    simp only [e16_25, e16_28, e16_31, e16_33, e16_35, o_iload, o_lload, o_aload, o_istore, o_lstore, o_astore, o_iinc, o_ipush, o_lpush, o_null, o_ibin, o_ineg, o_lbin, o_ldv, o_lneg, o_lcmp, o_i2l, o_l2i, o_dup, o_pop, o_dupx, o_dup2, o_ic, o_iz, o_nul, o_acmp, o_tsw, o_gI, o_gR, o_pI, o_pZ, o_pR, o_iald, o_bald, o_lald, o_aald, o_iast, o_bast, o_last, o_aast, o_alen, o_newa, o_new, o_mna, o_cast, o_calls, o_callv, o_calli, o_oinit, o_getC, o_refp, o_cpi, o_cpo, o_mmax, o_mmin, o_lmin, o_iret, o_zret, o_lret, o_aret, o_vret, jd_lo, jd_la, jd_nl, jd_pop, List.length_cons, List.length_nil, List.set_cons_zero, List.set_cons_succ, List.getElem?_cons_zero, List.getElem?_cons_succ, List.replicate_succ, List.replicate_zero, List.cons_append, List.nil_append, List.append_nil, Value.category, Option.toList, va_rf, true_implies, false_implies, false_and, and_false, and_true, true_and, and_self, true_or, or_true, false_or, or_false, not_true_eq_false, not_false_eq_true, forall_const, implies_true, if_true, if_false, reduceCtorEq, reduceIte, Nat.reduceAdd, Nat.reduceMul, Nat.reduceSub, Nat.reduceDiv, Nat.reduceMod, Nat.reduceEqDiff, Nat.reduceLeDiff, Nat.reduceLT, Nat.zero_le, Nat.lt_add_one, Nat.le_refl, Nat.sub_zero, Nat.zero_lt_succ, ge_iff_le, ji_m2, ji_m1, ji_0, ji_1, ji_2, ji_3, ji_4, ji_5, ji_6, ji_7, ji_8, ji_10, ji_12, ji_29, ji_30, ji_31, ji_40, ji_60, ji_70, ji_80, ji_81, ji_360, ji_512, ji_972, ji_1000000, ji_2147483639, jl_m1, jl_0, jl_1, ki.1, k0']
    refine k_isOwner (d := d + 1) ?_
    rw [if_pos (show 0 ≤ nI (nn (s.2.1 0 i0)) ∧ nI (nn (s.2.1 0 i0)) ≤ 29 from ⟨nI_pos' (by omega), nI_le (b := 29) (by omega) (by decide)⟩)]
    simp only [e16_38, e16_41, e16_42, e16_45, e16_47, e16_48, e16_49, e16_50, e16_53, e16_54, e16_55, e16_56, e16_59, e16_60, e16_61, e16_62, e16_63, e16_64, e16_67, o_iload, o_lload, o_aload, o_istore, o_lstore, o_astore, o_iinc, o_ipush, o_lpush, o_null, o_ibin, o_ineg, o_lbin, o_ldv, o_lneg, o_lcmp, o_i2l, o_l2i, o_dup, o_pop, o_dupx, o_dup2, o_ic, o_iz, o_nul, o_acmp, o_tsw, o_gI, o_gR, o_pI, o_pZ, o_pR, o_iald, o_bald, o_lald, o_aald, o_iast, o_bast, o_last, o_aast, o_alen, o_newa, o_new, o_mna, o_cast, o_calls, o_callv, o_calli, o_oinit, o_getC, o_refp, o_cpi, o_cpo, o_mmax, o_mmin, o_lmin, o_iret, o_zret, o_lret, o_aret, o_vret, jd_lo, jd_la, jd_nl, jd_pop, List.length_cons, List.length_nil, List.set_cons_zero, List.set_cons_succ, List.getElem?_cons_zero, List.getElem?_cons_succ, List.replicate_succ, List.replicate_zero, List.cons_append, List.nil_append, List.append_nil, Value.category, Option.toList, va_rf, true_implies, false_implies, false_and, and_false, and_true, true_and, and_self, true_or, or_true, false_or, or_false, not_true_eq_false, not_false_eq_true, forall_const, implies_true, if_true, if_false, reduceCtorEq, reduceIte, Nat.reduceAdd, Nat.reduceMul, Nat.reduceSub, Nat.reduceDiv, Nat.reduceMod, Nat.reduceEqDiff, Nat.reduceLeDiff, Nat.reduceLT, Nat.zero_le, Nat.lt_add_one, Nat.le_refl, Nat.sub_zero, Nat.zero_lt_succ, ge_iff_le, ji_m2, ji_m1, ji_0, ji_1, ji_2, ji_3, ji_4, ji_5, ji_6, ji_7, ji_8, ji_10, ji_12, ji_29, ji_30, ji_31, ji_40, ji_60, ji_70, ji_80, ji_81, ji_360, ji_512, ji_972, ji_1000000, ji_2147483639, jl_m1, jl_0, jl_1, h10, s1.1.1, s1.2.1.1, s3.1.1, r9, r11, k9, k11, l9, l11, kk.1, kk.2.1, m9, m11, bD_val hI hJ ha hin, hB _ w2, jn_in hi81 (by decide), jn_cl hi81 (by decide), jn_in w2 (by decide), jn_cl w2 (by decide), jn_sc]
    refine ih (i0 + 1) _ _ (by omega) (SF_A hF (by decide) (by decide)) hz (fun o ho => ?_)
    rw [rw_AA, eb]
    by_cases e : o = nn (s.2.1 0 i0)
    · rw [if_pos ⟨rfl, e⟩, if_pos e.symm, ← Int32.ofInt_add, e]
      congr 1
      omega
    · rw [if_neg (fun w => e w.2), if_neg (fun w => e w.symm), hB o ho]
      congr 1
      omega
set_option maxRecDepth 100000 in
theorem l_aa2 {y : Option Value} (hI : IV pp s n lo na p) (ha : a < na) (c : cSA h tg ad v n a s)
    (hQ : ∀ h2, SF ad h h2 → (∀ f, zI h2 f (ad 17 0) = zI h f (ad 17 0)) → (∀ o, o < 30 → zA h2 (ad 18 0) o = Int32.ofInt (bal s (a + 1) o)) → Q none h2) :
    ∀ (r o0 : Nat) (h2 : jd_H), o0 + r = 30 → SF ad h h2 → (∀ f, zI h2 f (ad 17 0) = zI h f (ad 17 0)) → (∀ o, o < 30 → zA h2 (ad 18 0) o = Int32.ofInt (if o < o0 then bal s (a + 1) o else bal s a o + bI s a o n)) → jd_w g d 16 Q 72 [some (.ref (ad 17 0)), some (.ref (ad 1 0)), some (.ref (ad 6 a)), some (.int (nI o0)), y] [] h2 0 0 := by
  have hn81 := IV_81 hI
  have hna := hI.2.2.1.2
  have hcn := IV_cn hI
  intro r
  induction r with
  | zero =>
    intro o0 h2 hi hF hz hB
    have hin : o0 = 30 := by omega
    subst hin
    simp only [e16_72, e16_73, e16_75, e16_99, o_iload, o_lload, o_aload, o_istore, o_lstore, o_astore, o_iinc, o_ipush, o_lpush, o_null, o_ibin, o_ineg, o_lbin, o_ldv, o_lneg, o_lcmp, o_i2l, o_l2i, o_dup, o_pop, o_dupx, o_dup2, o_ic, o_iz, o_nul, o_acmp, o_tsw, o_gI, o_gR, o_pI, o_pZ, o_pR, o_iald, o_bald, o_lald, o_aald, o_iast, o_bast, o_last, o_aast, o_alen, o_newa, o_new, o_mna, o_cast, o_calls, o_callv, o_calli, o_oinit, o_getC, o_refp, o_cpi, o_cpo, o_mmax, o_mmin, o_lmin, o_iret, o_zret, o_lret, o_aret, o_vret, jd_lo, jd_la, jd_nl, jd_pop, List.length_cons, List.length_nil, List.set_cons_zero, List.set_cons_succ, List.getElem?_cons_zero, List.getElem?_cons_succ, List.replicate_succ, List.replicate_zero, List.cons_append, List.nil_append, List.append_nil, Value.category, Option.toList, va_rf, true_implies, false_implies, false_and, and_false, and_true, true_and, and_self, true_or, or_true, false_or, or_false, not_true_eq_false, not_false_eq_true, forall_const, implies_true, if_true, if_false, reduceCtorEq, reduceIte, Nat.reduceAdd, Nat.reduceMul, Nat.reduceSub, Nat.reduceDiv, Nat.reduceMod, Nat.reduceEqDiff, Nat.reduceLeDiff, Nat.reduceLT, Nat.zero_le, Nat.lt_add_one, Nat.le_refl, Nat.sub_zero, Nat.zero_lt_succ, ge_iff_le, ji_m2, ji_m1, ji_0, ji_1, ji_2, ji_3, ji_4, ji_5, ji_6, ji_7, ji_8, ji_10, ji_12, ji_29, ji_30, ji_31, ji_40, ji_60, ji_70, ji_80, ji_81, ji_360, ji_512, ji_972, ji_1000000, ji_2147483639, jl_m1, jl_0, jl_1, j30]
    exact ⟨fun _ => hQ h2 hF hz (fun o ho => by rw [hB o ho, if_pos ho]), fun w => absurd (Int32.le_refl _) w⟩
  | succ r ih =>
    intro o0 h2 hi hF hz hB
    have ho : o0 < 30 := by omega
    have c2 := cSA_f c hF hn81 (by omega)
    obtain ⟨s1, s2, s3, s4, s5⟩ := c2
    have hnle : ¬ nI 30 ≤ nI o0 := nI_ge ho (by omega)
    have r13 : zR h2 134 (ad 6 a) = some (ad 13 a) := cAo_R s3 (k := 6) (by decide)
    have k13 : zK h2 (ad 13 a) = 10 := (s3.2 6 (by decide)).2.2.1
    have l13 : zL h2 (ad 13 a) = 30 := (s3.2 6 (by decide)).2.2.2
    have kk := s1.2.2 18 (by decide) (by decide)
    have bb := hB o0 ho
    rw [if_neg (by omega)] at bb
    rw [e16_72]
    simp only [e16_73, e16_75, e16_78, e16_79, e16_82, e16_83, e16_84, e16_85, e16_86, e16_89, e16_90, e16_91, e16_92, e16_93, e16_96, o_iload, o_lload, o_aload, o_istore, o_lstore, o_astore, o_iinc, o_ipush, o_lpush, o_null, o_ibin, o_ineg, o_lbin, o_ldv, o_lneg, o_lcmp, o_i2l, o_l2i, o_dup, o_pop, o_dupx, o_dup2, o_ic, o_iz, o_nul, o_acmp, o_tsw, o_gI, o_gR, o_pI, o_pZ, o_pR, o_iald, o_bald, o_lald, o_aald, o_iast, o_bast, o_last, o_aast, o_alen, o_newa, o_new, o_mna, o_cast, o_calls, o_callv, o_calli, o_oinit, o_getC, o_refp, o_cpi, o_cpo, o_mmax, o_mmin, o_lmin, o_iret, o_zret, o_lret, o_aret, o_vret, jd_lo, jd_la, jd_nl, jd_pop, List.length_cons, List.length_nil, List.set_cons_zero, List.set_cons_succ, List.getElem?_cons_zero, List.getElem?_cons_succ, List.replicate_succ, List.replicate_zero, List.cons_append, List.nil_append, List.append_nil, Value.category, Option.toList, va_rf, true_implies, false_implies, false_and, and_false, and_true, true_and, and_self, true_or, or_true, false_or, or_false, not_true_eq_false, not_false_eq_true, forall_const, implies_true, if_true, if_false, reduceCtorEq, reduceIte, Nat.reduceAdd, Nat.reduceMul, Nat.reduceSub, Nat.reduceDiv, Nat.reduceMod, Nat.reduceEqDiff, Nat.reduceLeDiff, Nat.reduceLT, Nat.zero_le, Nat.lt_add_one, Nat.le_refl, Nat.sub_zero, Nat.zero_lt_succ, ge_iff_le, ji_m2, ji_m1, ji_0, ji_1, ji_2, ji_3, ji_4, ji_5, ji_6, ji_7, ji_8, ji_10, ji_12, ji_29, ji_30, ji_31, ji_40, ji_60, ji_70, ji_80, ji_81, ji_360, ji_512, ji_972, ji_1000000, ji_2147483639, jl_m1, jl_0, jl_1, j30, hnle, s1.1.1, s1.2.1.1, s3.1.1, r13, k13, l13, kk.1, kk.2.1, s5 o0 ho, bb, jn_in ho (by decide), jn_cl ho (by decide), jn_sc]
    refine ih (o0 + 1) _ (by omega) (SF_A hF (by decide) (by decide)) hz (fun o ho1 => ?_)
    rw [rw_AA]
    by_cases e : o = o0
    · subst e
      rw [if_pos ⟨rfl, rfl⟩, if_pos (by omega), ← nI_ofInt, ← Int32.ofInt_add]
      show _ = Int32.ofInt (bal s a o + bI s a o (cn s) + (gt s a o : Int))
      rw [hcn]
    · rw [if_neg (fun w => e w.2), hB o ho1]
      by_cases e2 : o < o0
      · rw [if_pos e2, if_pos (by omega)]
      · rw [if_neg e2, if_neg (by omega)]
set_option maxRecDepth 100000 in
theorem k_addAct (hI : IV pp s n lo na p) (hJ : JV q s n na p) (ha : a < na) (c : cSA h tg ad v n a s) (hB : ∀ o, o < 30 → zA h (ad 18 0) o = Int32.ofInt (bal s a o))
    (hQ : ∀ h2, SF ad h h2 → (∀ o, o < 30 → zA h2 (ad 18 0) o = Int32.ofInt (bal s (a + 1) o)) → Q none h2) : jd_WM g (d + 4) 16 [.ref (ad 17 0), .ref (ad 1 0), .ref (ad 6 a)] h Q := by
  refine ⟨Nat.le_of_ble_eq_true rfl, ?_⟩; show jd_w g (d + 3) 16 Q 0 [some (.ref (ad 17 0)), some (.ref (ad 1 0)), some (.ref (ad 6 a)), none, none] [] h 0 0
  have hn81 := IV_81 hI
  have hna := hI.2.2.1.2
  simp only [e16_0, e16_1, o_iload, o_lload, o_aload, o_istore, o_lstore, o_astore, o_iinc, o_ipush, o_lpush, o_null, o_ibin, o_ineg, o_lbin, o_ldv, o_lneg, o_lcmp, o_i2l, o_l2i, o_dup, o_pop, o_dupx, o_dup2, o_ic, o_iz, o_nul, o_acmp, o_tsw, o_gI, o_gR, o_pI, o_pZ, o_pR, o_iald, o_bald, o_lald, o_aald, o_iast, o_bast, o_last, o_aast, o_alen, o_newa, o_new, o_mna, o_cast, o_calls, o_callv, o_calli, o_oinit, o_getC, o_refp, o_cpi, o_cpo, o_mmax, o_mmin, o_lmin, o_iret, o_zret, o_lret, o_aret, o_vret, jd_lo, jd_la, jd_nl, jd_pop, List.length_cons, List.length_nil, List.set_cons_zero, List.set_cons_succ, List.getElem?_cons_zero, List.getElem?_cons_succ, List.replicate_succ, List.replicate_zero, List.cons_append, List.nil_append, List.append_nil, Value.category, Option.toList, va_rf, true_implies, false_implies, false_and, and_false, and_true, true_and, and_self, true_or, or_true, false_or, or_false, not_true_eq_false, not_false_eq_true, forall_const, implies_true, if_true, if_false, reduceCtorEq, reduceIte, Nat.reduceAdd, Nat.reduceMul, Nat.reduceSub, Nat.reduceDiv, Nat.reduceMod, Nat.reduceEqDiff, Nat.reduceLeDiff, Nat.reduceLT, Nat.zero_le, Nat.lt_add_one, Nat.le_refl, Nat.sub_zero, Nat.zero_lt_succ, ge_iff_le, ji_m2, ji_m1, ji_0, ji_1, ji_2, ji_3, ji_4, ji_5, ji_6, ji_7, ji_8, ji_10, ji_12, ji_29, ji_30, ji_31, ji_40, ji_60, ji_70, ji_80, ji_81, ji_360, ji_512, ji_972, ji_1000000, ji_2147483639, jl_m1, jl_0, jl_1]
  refine l_aa1 hI hJ ha c (fun h2 y hF2 hz2 hB2 => ?_) n 0 h none (by omega) SF_r (fun _ => rfl) (fun o ho => ?_)
  · simp only [e16_70, e16_71, o_iload, o_lload, o_aload, o_istore, o_lstore, o_astore, o_iinc, o_ipush, o_lpush, o_null, o_ibin, o_ineg, o_lbin, o_ldv, o_lneg, o_lcmp, o_i2l, o_l2i, o_dup, o_pop, o_dupx, o_dup2, o_ic, o_iz, o_nul, o_acmp, o_tsw, o_gI, o_gR, o_pI, o_pZ, o_pR, o_iald, o_bald, o_lald, o_aald, o_iast, o_bast, o_last, o_aast, o_alen, o_newa, o_new, o_mna, o_cast, o_calls, o_callv, o_calli, o_oinit, o_getC, o_refp, o_cpi, o_cpo, o_mmax, o_mmin, o_lmin, o_iret, o_zret, o_lret, o_aret, o_vret, jd_lo, jd_la, jd_nl, jd_pop, List.length_cons, List.length_nil, List.set_cons_zero, List.set_cons_succ, List.getElem?_cons_zero, List.getElem?_cons_succ, List.replicate_succ, List.replicate_zero, List.cons_append, List.nil_append, List.append_nil, Value.category, Option.toList, va_rf, true_implies, false_implies, false_and, and_false, and_true, true_and, and_self, true_or, or_true, false_or, or_false, not_true_eq_false, not_false_eq_true, forall_const, implies_true, if_true, if_false, reduceCtorEq, reduceIte, Nat.reduceAdd, Nat.reduceMul, Nat.reduceSub, Nat.reduceDiv, Nat.reduceMod, Nat.reduceEqDiff, Nat.reduceLeDiff, Nat.reduceLT, Nat.zero_le, Nat.lt_add_one, Nat.le_refl, Nat.sub_zero, Nat.zero_lt_succ, ge_iff_le, ji_m2, ji_m1, ji_0, ji_1, ji_2, ji_3, ji_4, ji_5, ji_6, ji_7, ji_8, ji_10, ji_12, ji_29, ji_30, ji_31, ji_40, ji_60, ji_70, ji_80, ji_81, ji_360, ji_512, ji_972, ji_1000000, ji_2147483639, jl_m1, jl_0, jl_1]
    refine l_aa2 hI ha (cSA_f c hF2 hn81 (by omega)) (fun h3 hF3 hz3 hB3 => hQ h3 (SF_t hF2 hF3) hB3) 30 0 h2 (by omega) SF_r (fun _ => rfl) (fun o ho => by rw [hB2 o ho, if_neg (by omega)])
  · rw [hB o ho]
    congr 1
    show _ = bal s a o + 0
    omega
end
