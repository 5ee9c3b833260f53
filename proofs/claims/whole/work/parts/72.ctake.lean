/-! the class: takeBack, whole -/
def PW (v u : Nat) : Prop := ¬ (Tg v 0 0 ≤ u ∧ u < Tg (v + 1) 0 0)
theorem evF_0 {s : VS} {e : Ev} : evF s e 0 = e 0 := by
  unfold evF
  split
  · rfl
  · split
    · next z => exact z.symm
    · rfl
theorem evF_4 {s : VS} {e : Ev} : evF s e 4 = s.1 4 := by
  unfold evF
  split
  · rfl
  · split <;> rfl
section
variable {s s' : VS} {pp po : Int32} {n lo na p q : Nat} {o w t go fr te r : Int32}
theorem vLoad_un (hI : IV pp s n lo na p) (h : vLoad pp po s o w t go fr te = some (r, s')) : (∀ k i, k < 7 → i < n → s.2.1 k i = s'.2.1 k i) ∧ ((cn s' = n + 1 ∧ s'.2.1 6 n = -1) ∨ (cn s' = n + 2 ∧ ¬ s'.2.1 6 (n + 1) = -1)) ∧ s'.2.2 = s.2.2 ∧ (s'.1 0 = s.1 0 ∧ s'.1 5 = s.1 5 ∧ s'.1 6 = s.1 6 ∧ s'.1 2 = s.1 2 + 1) ∧ ca s' = ca s ∧ cn s' ≤ 81 := by
  have hcn := IV_cn hI
  have hs1 := hI.1.1
  unfold vLoad at h
  split at h
  · cases h
  next hne =>
  have hlo : lo ≤ 39 := by
    have h1 := hI.2.1.1
    have h2 := hI.2.1.2
    by_cases e : lo = 40
    · exact absurd (by rw [h1, e]; rfl) (fun z => hne (Or.inr (Or.inr (Or.inr (Or.inr (Or.inr (Or.inr (Or.inr z))))))))
    · omega
  have hn79 : n ≤ 79 := by have := hI.1.2.2; omega
  have hcn1 : cn (u1 (u1 s.1 2 (s.1 2 + 1)) 4 (-1), s.2) = n := hcn
  have hcn2 : cn (vComes (u1 (u1 s.1 2 (s.1 2 + 1)) 4 (-1), s.2) o w t go te) = n + 1 := by
    show (s.1 1 + 1).toNatClampNeg = n + 1
    rw [hs1, jn_sc]
    exact jn_cl (show n + 1 < 82 by omega) (by decide)
  dsimp only at h
  split at h
  · injection h with h
    injection h with h0 h1
    have hcn3 : cn s' = n + 2 := by
      rw [← h1]
      show (s.1 1 + 1 + 1).toNatClampNeg = n + 2
      rw [hs1, jn_sc, jn_sc]
      exact jn_cl (show n + 1 + 1 < 82 by omega) (by decide)
    refine ⟨fun k i hk hi => ?_, Or.inr ⟨hcn3, ?_⟩, ?_, ?_, ?_, by omega⟩
    · rw [← h1, hcn]
      show _ = u2 (u2 (fun k i => if i = cn (vComes (u1 (u1 s.1 2 (s.1 2 + 1)) 4 (-1), s.2) o w t go te) then vRow po fr fr go 0 k else if i = cn (u1 (u1 s.1 2 (s.1 2 + 1)) 4 (-1), s.2) then vRow o w t go te k else s.2.1 k i) 6 (n + 1) (s.1 1)) 7 n (s.1 1 + 1) k i
      rw [hcn1, hcn2]
      unfold u2
      rw [if_neg (fun z => by omega), if_neg (fun z => by omega)]
      exact ((if_neg (by omega)).trans (if_neg (by omega))).symm
    · rw [← h1, hcn]
      have : u2 (u2 (vComes (vComes (u1 (u1 s.1 2 (s.1 2 + 1)) 4 (-1), s.2) o w t go te) po fr fr go 0).2.1 6 (n + 1) (s.1 1)) 7 n (s.1 1 + 1) 6 (n + 1) = s.1 1 := by
        unfold u2
        rw [if_neg (fun z => absurd z.1 (by decide)), if_pos ⟨rfl, rfl⟩]
      show ¬ u2 (u2 (vComes (vComes (u1 (u1 s.1 2 (s.1 2 + 1)) 4 (-1), s.2) o w t go te) po fr fr go 0).2.1 6 (n + 1) (s.1 1)) 7 n (s.1 1 + 1) 6 (n + 1) = -1
      rw [this, hs1]
      exact jm1 (by omega)
    · rw [← h1]; rfl
    · rw [← h1]; exact ⟨rfl, rfl, rfl, rfl⟩
    · rw [← h1]; rfl
  · injection h with h
    injection h with h0 h1
    have hcn3 : cn s' = n + 1 := by rw [← h1]; exact hcn2
    refine ⟨fun k i hk hi => ?_, Or.inl ⟨hcn3, ?_⟩, ?_, ?_, ?_, by omega⟩
    · rw [← h1]
      show _ = (if i = cn (u1 (u1 s.1 2 (s.1 2 + 1)) 4 (-1), s.2) then vRow o w t go te k else s.2.1 k i)
      rw [hcn1, if_neg (by omega)]
    · rw [← h1]
      show (if n = cn (u1 (u1 s.1 2 (s.1 2 + 1)) 4 (-1), s.2) then vRow o w t go te 6 else s.2.1 6 n) = -1
      rw [hcn1, if_pos rfl]
      rfl
    · rw [← h1]; rfl
    · rw [← h1]; exact ⟨rfl, rfl, rfl, rfl⟩
    · rw [← h1]; rfl
theorem vWr_cg (h6 : s'.1 6 = s.1 6) (h0 : s'.1 0 = s.1 0) : vWr q s' = vWr q s := by
  unfold vWr
  rw [h6, h0]
end
section
variable {g d : Nat} {h : jd_H} {Q : jd_Q} {tg aj : Nat → Nat} {ad : Nat → Nat → Nat} {v q : Nat} {po w0 : Int32} {l : List Ev}
set_option maxRecDepth 100000 in
theorem k_takeBack (c : cVoy h tg ad aj v po w0 q l) (hl : l.length ≤ 511) (hQ0 : l = [] → Q (some (.int 0)) h) (hQ1 : ∀ e l' h', l = e :: l' → cVoy h' tg ad aj v po w0 q l' → AG (PW v) h h' tg tg → Q (some (.int 1)) h') : jd_WM g (d + 8) 33 [.ref (ad 0 0)] h Q := by
  refine ⟨Nat.le_of_ble_eq_true rfl, ?_⟩; show jd_w g (d + 7) 33 Q 0 [some (.ref (ad 0 0)), none] [] h 0 0
  have h10 : ¬ (1 : Int32) = 0 := by decide
  have cc := c
  obtain ⟨⟨hV, hO, hK⟩, c0, cI, cA, cE, cS, cW, cR⟩ := cc
  obtain ⟨⟨kV, tV⟩, ⟨r448, r449, r450, r451, r454⟩, ⟨i452, i453⟩, i455, i456, i457, i458, i459⟩ := id c0
  have l1 := vLS_K cE.1
  have l2 := vLS_n cE.1
  simp only [e33_0, e33_1, e33_4, o_iload, o_lload, o_aload, o_istore, o_lstore, o_astore, o_iinc, o_ipush, o_lpush, o_null, o_ibin, o_ineg, o_lbin, o_ldv, o_lneg, o_lcmp, o_i2l, o_l2i, o_dup, o_pop, o_dupx, o_dup2, o_ic, o_iz, o_nul, o_acmp, o_tsw, o_gI, o_gR, o_pI, o_pZ, o_pR, o_iald, o_bald, o_lald, o_aald, o_iast, o_bast, o_last, o_aast, o_alen, o_newa, o_new, o_mna, o_cast, o_calls, o_callv, o_calli, o_oinit, o_getC, o_refp, o_cpi, o_cpo, o_mmax, o_mmin, o_lmin, o_iret, o_zret, o_lret, o_aret, o_vret, jd_lo, jd_la, jd_nl, jd_pop, List.length_cons, List.length_nil, List.set_cons_zero, List.set_cons_succ, List.getElem?_cons_zero, List.getElem?_cons_succ, List.replicate_succ, List.replicate_zero, List.cons_append, List.nil_append, List.append_nil, Value.category, Option.toList, va_rf, true_implies, false_implies, false_and, and_false, and_true, true_and, and_self, true_or, or_true, false_or, or_false, not_true_eq_false, not_false_eq_true, forall_const, implies_true, if_true, if_false, reduceCtorEq, reduceIte, Nat.reduceAdd, Nat.reduceMul, Nat.reduceSub, Nat.reduceDiv, Nat.reduceMod, Nat.reduceEqDiff, Nat.reduceLeDiff, Nat.reduceLT, Nat.zero_le, Nat.lt_add_one, Nat.le_refl, Nat.sub_zero, Nat.zero_lt_succ, ge_iff_le, ji_m2, ji_m1, ji_0, ji_1, ji_2, ji_3, ji_4, ji_5, ji_6, ji_7, ji_8, ji_10, ji_12, ji_29, ji_30, ji_31, ji_40, ji_60, ji_70, ji_80, ji_81, ji_360, ji_512, ji_972, ji_1000000, ji_2147483639, jl_m1, jl_0, jl_1, kV, r450, l1]
  refine k_isEmpty (d := d + 6) l1 ?_
  rw [l2]
  cases l with
  | nil =>
    rw [if_pos (show nI (List.length ([] : List Ev)) = 0 from rfl)]
    simp only [e33_9, e33_12, e33_13, o_iload, o_lload, o_aload, o_istore, o_lstore, o_astore, o_iinc, o_ipush, o_lpush, o_null, o_ibin, o_ineg, o_lbin, o_ldv, o_lneg, o_lcmp, o_i2l, o_l2i, o_dup, o_pop, o_dupx, o_dup2, o_ic, o_iz, o_nul, o_acmp, o_tsw, o_gI, o_gR, o_pI, o_pZ, o_pR, o_iald, o_bald, o_lald, o_aald, o_iast, o_bast, o_last, o_aast, o_alen, o_newa, o_new, o_mna, o_cast, o_calls, o_callv, o_calli, o_oinit, o_getC, o_refp, o_cpi, o_cpo, o_mmax, o_mmin, o_lmin, o_iret, o_zret, o_lret, o_aret, o_vret, jd_lo, jd_la, jd_nl, jd_pop, List.length_cons, List.length_nil, List.set_cons_zero, List.set_cons_succ, List.getElem?_cons_zero, List.getElem?_cons_succ, List.replicate_succ, List.replicate_zero, List.cons_append, List.nil_append, List.append_nil, Value.category, Option.toList, va_rf, true_implies, false_implies, false_and, and_false, and_true, true_and, and_self, true_or, or_true, false_or, or_false, not_true_eq_false, not_false_eq_true, forall_const, implies_true, if_true, if_false, reduceCtorEq, reduceIte, Nat.reduceAdd, Nat.reduceMul, Nat.reduceSub, Nat.reduceDiv, Nat.reduceMod, Nat.reduceEqDiff, Nat.reduceLeDiff, Nat.reduceLT, Nat.zero_le, Nat.lt_add_one, Nat.le_refl, Nat.sub_zero, Nat.zero_lt_succ, ge_iff_le, ji_m2, ji_m1, ji_0, ji_1, ji_2, ji_3, ji_4, ji_5, ji_6, ji_7, ji_8, ji_10, ji_12, ji_29, ji_30, ji_31, ji_40, ji_60, ji_70, ji_80, ji_81, ji_360, ji_512, ji_972, ji_1000000, ji_2147483639, jl_m1, jl_0, jl_1, h10]
    exact hQ0 rfl
  | cons e l' =>
    have hll : l'.length + 1 ≤ 511 := hl
    have ne : ¬ nI (e :: l').length = 0 := nI_ne0 (show 0 < l'.length + 1 by omega) (show l'.length + 1 < 2 ^ 31 by omega)
    rw [if_neg ne]
    have cE1 : cVE h tg ad v (l'.length + 1) (fun k => evF (rep (nI q) po w0 (lastn (e :: l') k)) (evk (e :: l') k)) := cE
    obtain ⟨hO', ⟨r, s'⟩, hz⟩ := hO
    have hrs : rep (nI q) po w0 (e :: l') = s' := rep_c hz
    obtain ⟨n0, lo, na, p, hI, hJ⟩ := IJ_rep rfl hV.1 hV.2.1 hV.2.2 _ hO'
    obtain ⟨n1, lo1, na1, p1, hI1, hJ1⟩ := cVoy_IJ c
    rw [hrs] at c0 cI cA i455 i456 i457 i458 i459 hI1
    have b81 : cn s' ≤ 81 := by rw [IV_cn hI1]; exact IV_81 hI1
    have b12 : ca s' ≤ 12 := by rw [IV_ca hI1]; exact hI1.2.2.1.2
    have hn81 := IV_81 hI
    have hcn := IV_cn hI
    have hca := IV_ca hI
    have hna := hI.2.2.1.2
    have l3 : zI h 66 (ad 14 0) = nI (l'.length + 1) := l2
    simp only [e33_9, e33_14, e33_15, e33_18, e33_19, e33_22, o_iload, o_lload, o_aload, o_istore, o_lstore, o_astore, o_iinc, o_ipush, o_lpush, o_null, o_ibin, o_ineg, o_lbin, o_ldv, o_lneg, o_lcmp, o_i2l, o_l2i, o_dup, o_pop, o_dupx, o_dup2, o_ic, o_iz, o_nul, o_acmp, o_tsw, o_gI, o_gR, o_pI, o_pZ, o_pR, o_iald, o_bald, o_lald, o_aald, o_iast, o_bast, o_last, o_aast, o_alen, o_newa, o_new, o_mna, o_cast, o_calls, o_callv, o_calli, o_oinit, o_getC, o_refp, o_cpi, o_cpo, o_mmax, o_mmin, o_lmin, o_iret, o_zret, o_lret, o_aret, o_vret, jd_lo, jd_la, jd_nl, jd_pop, List.length_cons, List.length_nil, List.set_cons_zero, List.set_cons_succ, List.getElem?_cons_zero, List.getElem?_cons_succ, List.replicate_succ, List.replicate_zero, List.cons_append, List.nil_append, List.append_nil, Value.category, Option.toList, va_rf, true_implies, false_implies, false_and, and_false, and_true, true_and, and_self, true_or, or_true, false_or, or_false, not_true_eq_false, not_false_eq_true, forall_const, implies_true, if_true, if_false, reduceCtorEq, reduceIte, Nat.reduceAdd, Nat.reduceMul, Nat.reduceSub, Nat.reduceDiv, Nat.reduceMod, Nat.reduceEqDiff, Nat.reduceLeDiff, Nat.reduceLT, Nat.zero_le, Nat.lt_add_one, Nat.le_refl, Nat.sub_zero, Nat.zero_lt_succ, ge_iff_le, ji_m2, ji_m1, ji_0, ji_1, ji_2, ji_3, ji_4, ji_5, ji_6, ji_7, ji_8, ji_10, ji_12, ji_29, ji_30, ji_31, ji_40, ji_60, ji_70, ji_80, ji_81, ji_360, ji_512, ji_972, ji_1000000, ji_2147483639, jl_m1, jl_0, jl_1, kV, r450, l1]
    refine k_lsize (d := d + 6) cE1.1 ?_
    simp only [e33_27, e33_28, e33_29, o_iload, o_lload, o_aload, o_istore, o_lstore, o_astore, o_iinc, o_ipush, o_lpush, o_null, o_ibin, o_ineg, o_lbin, o_ldv, o_lneg, o_lcmp, o_i2l, o_l2i, o_dup, o_pop, o_dupx, o_dup2, o_ic, o_iz, o_nul, o_acmp, o_tsw, o_gI, o_gR, o_pI, o_pZ, o_pR, o_iald, o_bald, o_lald, o_aald, o_iast, o_bast, o_last, o_aast, o_alen, o_newa, o_new, o_mna, o_cast, o_calls, o_callv, o_calli, o_oinit, o_getC, o_refp, o_cpi, o_cpo, o_mmax, o_mmin, o_lmin, o_iret, o_zret, o_lret, o_aret, o_vret, jd_lo, jd_la, jd_nl, jd_pop, List.length_cons, List.length_nil, List.set_cons_zero, List.set_cons_succ, List.getElem?_cons_zero, List.getElem?_cons_succ, List.replicate_succ, List.replicate_zero, List.cons_append, List.nil_append, List.append_nil, Value.category, Option.toList, va_rf, true_implies, false_implies, false_and, and_false, and_true, true_and, and_self, true_or, or_true, false_or, or_false, not_true_eq_false, not_false_eq_true, forall_const, implies_true, if_true, if_false, reduceCtorEq, reduceIte, Nat.reduceAdd, Nat.reduceMul, Nat.reduceSub, Nat.reduceDiv, Nat.reduceMod, Nat.reduceEqDiff, Nat.reduceLeDiff, Nat.reduceLT, Nat.zero_le, Nat.lt_add_one, Nat.le_refl, Nat.sub_zero, Nat.zero_lt_succ, ge_iff_le, ji_m2, ji_m1, ji_0, ji_1, ji_2, ji_3, ji_4, ji_5, ji_6, ji_7, ji_8, ji_10, ji_12, ji_29, ji_30, ji_31, ji_40, ji_60, ji_70, ji_80, ji_81, ji_360, ji_512, ji_972, ji_1000000, ji_2147483639, jl_m1, jl_0, jl_1, nI_pred, l1]
    refine k_lrem (d := d + 4) cE1.1 (fun h1 hL1 hG1 => ?_)
    have cE2 : cVE h1 tg ad v l'.length (fun k => evF (rep (nI q) po w0 (lastn (e :: l') k)) (evk (e :: l') k)) := ⟨hL1, fun k hk => by
      obtain ⟨⟨k1, k2⟩, k3⟩ := cE1.2 k (by omega)
      have q0 : zK h (ad 16 k) ≠ 0 := by rw [k1]; decide
      refine ⟨⟨AG_K hG1 k1 (by decide), (AG_g hG1 q0).trans k2⟩, fun i hi => ?_⟩
      rw [AG_I hG1 q0 (by rw [k2]; unfold Tg; omega)]
      exact k3 i hi⟩
    obtain ⟨⟨kE, tE⟩, vE⟩ := cE1.2 l'.length (by omega)
    have E0 : zK h (ad 16 l'.length) ≠ 0 := by rw [kE]; decide
    have kE1 : zK h1 (ad 16 l'.length) = 4 := AG_K hG1 kE (by decide)
    have wE : ∀ c, c < 5 → zI h1 (256 + c) (ad 16 l'.length) = evF (rep (nI q) po w0 l') e c := fun c hc => by
      rw [AG_I hG1 E0 (by rw [tE]; unfold Tg; omega), vE c hc]
      show evF (rep (nI q) po w0 (lastn (e :: l') l'.length)) (evk (e :: l') l'.length) c = _
      rw [lastn_c (Nat.le_refl _), lastn_all, evk_n]
    have w0' : zI h1 256 (ad 16 l'.length) = e 0 := (wE 0 (by decide)).trans evF_0
    have w4' : zI h1 260 (ad 16 l'.length) = (rep (nI q) po w0 l').1 4 := (wE 4 (by decide)).trans evF_4
    have w1' : zI h1 257 (ad 16 l'.length) = evF (rep (nI q) po w0 l') e 1 := wE 1 (by decide)
    have w2' : zI h1 258 (ad 16 l'.length) = evF (rep (nI q) po w0 l') e 2 := wE 2 (by decide)
    have w3' : zI h1 259 (ad 16 l'.length) = evF (rep (nI q) po w0 l') e 3 := wE 3 (by decide)
    have kV1 : zK h1 (ad 0 0) = 7 := AG_K hG1 kV (by decide)
    have c01 := cV0_fr c0 hG1 (by unfold Tg; omega)
    have cI1 := cVI_fr cI hG1 (by unfold Tg; omega) (fun i hi => by unfold Tg; omega)
    have cA1 := cVA_fr cA hG1 (by unfold Tg; omega) (fun a k _ _ _ => by unfold Tg; omega)
    have cS1 := cVS_fr cS hG1 (by unfold Tg; omega)
    have w327 : ∀ i, i < cn s' → zI h1 327 (ad 3 i) = zI h 327 (ad 3 i) := fun i hi => by
      obtain ⟨k5, t5⟩ := (cI.2 i hi).1
      exact AG_I hG1 (by rw [k5]; decide) (by rw [t5]; unfold Tg; omega) 327
    generalize hs : rep (nI q) po w0 l' = s at hz hI hJ hcn hca w1' w2' w3' w4'
    have h6 : s.1 6 = 0 := Decidable.byContradiction (fun z => by rw [vDo_E z] at hz; cases hz)
    have c02 := cV0_w (k := 2) (x := s.1 4) c01 (by decide)
    have hG2 : AG (fun u => u ≠ Tg v 0 0) h1 (wI h1 457 (ad 0 0) (s.1 4)) tg tg := AG_wI (fun z => z c01.1.2)
    have cI2 := cVI_fr cI1 hG2 (by unfold Tg; omega) (fun i hi => by unfold Tg; omega)
    have cA2 := cVA_fr cA1 hG2 (by unfold Tg; omega) (fun a k _ _ _ => by unfold Tg; omega)
    have cE3 := cVE_fr cE2 hG2 (by unfold Tg; omega) (fun i hi => by unfold Tg; omega)
    have cS2 := cVS_fr cS1 hG2 (by unfold Tg; omega)
    have x256 : zI (wI h1 457 (ad 0 0) (s.1 4)) 256 (ad 16 l'.length) = e 0 := (wI_ne (by decide)).trans w0'
    have x257 : zI (wI h1 457 (ad 0 0) (s.1 4)) 257 (ad 16 l'.length) = evF s e 1 := (wI_ne (by decide)).trans w1'
    have x258 : zI (wI h1 457 (ad 0 0) (s.1 4)) 258 (ad 16 l'.length) = evF s e 2 := (wI_ne (by decide)).trans w2'
    have x259 : zI (wI h1 457 (ad 0 0) (s.1 4)) 259 (ad 16 l'.length) = evF s e 3 := (wI_ne (by decide)).trans w3'
    have kE2 : zK (wI h1 457 (ad 0 0) (s.1 4)) (ad 16 l'.length) = 4 := kE1
    have tE2 : tg (ad 16 l'.length) = Tg v 16 l'.length := tE
    have y327 : ∀ i, i < cn s' → zI (wI h1 457 (ad 0 0) (s.1 4)) 327 (ad 3 i) = zI h 327 (ad 3 i) := fun i hi => (wI_ne (by decide)).trans (w327 i hi)
    have c02 : cV0 (wI h1 457 (ad 0 0) (s.1 4)) tg ad aj v po q (u1 (fS q s') 2 (s.1 4)) := c02
    have hGG : AG (PW v) h (wI h1 457 (ad 0 0) (s.1 4)) tg tg := AG_t (AG_w hG1 (fun u hu => by unfold PW Tg at hu; unfold Tg; omega)) (AG_w hG2 (fun u hu => by unfold PW Tg at hu; unfold Tg; omega))
    -- the end
    have fin : ∀ h3, cV0 h3 tg ad aj v po q (fS q s) → cVI h3 tg ad v n0 s.2.1 → cVA h3 tg ad v na s.2.2.1 s.2.2.2 → cVE h3 tg ad v l'.length (fun k => evF (rep (nI q) po w0 (lastn (e :: l') k)) (evk (e :: l') k)) → cVS h3 tg ad v → AG (PW v) (wI h1 457 (ad 0 0) (s.1 4)) h3 tg tg → jd_w g (d + 7) 33 Q 144 [some (.ref (ad 0 0)), some (.ref (ad 16 l'.length))] [] h3 0 0 := fun h3 z1 z2 z3 z4 z5 z6 => by
      simp only [e33_144, e33_145, o_iload, o_lload, o_aload, o_istore, o_lstore, o_astore, o_iinc, o_ipush, o_lpush, o_null, o_ibin, o_ineg, o_lbin, o_ldv, o_lneg, o_lcmp, o_i2l, o_l2i, o_dup, o_pop, o_dupx, o_dup2, o_ic, o_iz, o_nul, o_acmp, o_tsw, o_gI, o_gR, o_pI, o_pZ, o_pR, o_iald, o_bald, o_lald, o_aald, o_iast, o_bast, o_last, o_aast, o_alen, o_newa, o_new, o_mna, o_cast, o_calls, o_callv, o_calli, o_oinit, o_getC, o_refp, o_cpi, o_cpo, o_mmax, o_mmin, o_lmin, o_iret, o_zret, o_lret, o_aret, o_vret, jd_lo, jd_la, jd_nl, jd_pop, List.length_cons, List.length_nil, List.set_cons_zero, List.set_cons_succ, List.getElem?_cons_zero, List.getElem?_cons_succ, List.replicate_succ, List.replicate_zero, List.cons_append, List.nil_append, List.append_nil, Value.category, Option.toList, va_rf, true_implies, false_implies, false_and, and_false, and_true, true_and, and_self, true_or, or_true, false_or, or_false, not_true_eq_false, not_false_eq_true, forall_const, implies_true, if_true, if_false, reduceCtorEq, reduceIte, Nat.reduceAdd, Nat.reduceMul, Nat.reduceSub, Nat.reduceDiv, Nat.reduceMod, Nat.reduceEqDiff, Nat.reduceLeDiff, Nat.reduceLT, Nat.zero_le, Nat.lt_add_one, Nat.le_refl, Nat.sub_zero, Nat.zero_lt_succ, ge_iff_le, ji_m2, ji_m1, ji_0, ji_1, ji_2, ji_3, ji_4, ji_5, ji_6, ji_7, ji_8, ji_10, ji_12, ji_29, ji_30, ji_31, ji_40, ji_60, ji_70, ji_80, ji_81, ji_360, ji_512, ji_972, ji_1000000, ji_2147483639, jl_m1, jl_0, jl_1]
      exact hQ1 e l' h3 rfl (cVoy_un hV hO' hK (by rw [hs]; exact h6) (by rw [hs]; exact z1) (by rw [hs, hcn]; exact z2) (by rw [hs, hca]; exact z3) z4 z5) (AG_t hGG z6)
    simp only [e33_34, e33_37, e33_38, e33_39, e33_40, e33_43, e33_46, e33_47, o_iload, o_lload, o_aload, o_istore, o_lstore, o_astore, o_iinc, o_ipush, o_lpush, o_null, o_ibin, o_ineg, o_lbin, o_ldv, o_lneg, o_lcmp, o_i2l, o_l2i, o_dup, o_pop, o_dupx, o_dup2, o_ic, o_iz, o_nul, o_acmp, o_tsw, o_gI, o_gR, o_pI, o_pZ, o_pR, o_iald, o_bald, o_lald, o_aald, o_iast, o_bast, o_last, o_aast, o_alen, o_newa, o_new, o_mna, o_cast, o_calls, o_callv, o_calli, o_oinit, o_getC, o_refp, o_cpi, o_cpo, o_mmax, o_mmin, o_lmin, o_iret, o_zret, o_lret, o_aret, o_vret, jd_lo, jd_la, jd_nl, jd_pop, List.length_cons, List.length_nil, List.set_cons_zero, List.set_cons_succ, List.getElem?_cons_zero, List.getElem?_cons_succ, List.replicate_succ, List.replicate_zero, List.cons_append, List.nil_append, List.append_nil, Value.category, Option.toList, va_rf, true_implies, false_implies, false_and, and_false, and_true, true_and, and_self, true_or, or_true, false_or, or_false, not_true_eq_false, not_false_eq_true, forall_const, implies_true, if_true, if_false, reduceCtorEq, reduceIte, Nat.reduceAdd, Nat.reduceMul, Nat.reduceSub, Nat.reduceDiv, Nat.reduceMod, Nat.reduceEqDiff, Nat.reduceLeDiff, Nat.reduceLT, Nat.zero_le, Nat.lt_add_one, Nat.le_refl, Nat.sub_zero, Nat.zero_lt_succ, ge_iff_le, ji_m2, ji_m1, ji_0, ji_1, ji_2, ji_3, ji_4, ji_5, ji_6, ji_7, ji_8, ji_10, ji_12, ji_29, ji_30, ji_31, ji_40, ji_60, ji_70, ji_80, ji_81, ji_360, ji_512, ji_972, ji_1000000, ji_2147483639, jl_m1, jl_0, jl_1, rw_KI, kE1, kV1, w4']
    rw [rw_II, if_neg (fun z => absurd z.1 (by decide)), w0']
    generalize wI h1 457 (ad 0 0) (s.1 4) = h2 at hG2 cI2 cA2 cE3 cS2 x256 x257 x258 x259 kE2 y327 c02 hGG fin
    obtain ⟨ck, hck, hek⟩ := hK l'.length (show l'.length < l'.length + 1 by omega)
    rw [evk_n] at hek
    have kV2 := c02.1.1
    have sw : ∀ k : Nat, k < 7 → (e 0 = nI k) → True := fun _ _ _ => trivial
    have hck' : ck = 0 ∨ ck = 1 ∨ ck = 2 ∨ ck = 3 ∨ ck = 4 ∨ ck = 5 ∨ ck = 6 := by omega
    rcases hck' with rfl | rfl | rfl | rfl | rfl | rfl | rfl
    · -- loading
      have he : e 0 = 0 := hek
      have ti : (0 : Int32).toInt = 0 := by decide
      rw [vDo_0 h6 he] at hz
      obtain ⟨u1', u2', u3', ⟨a0, a5, a6, a2⟩, uca, u81⟩ := vLoad_un hI hz
      rw [he]
      simp only [e33_50, e33_92, e33_93, o_iload, o_lload, o_aload, o_istore, o_lstore, o_astore, o_iinc, o_ipush, o_lpush, o_null, o_ibin, o_ineg, o_lbin, o_ldv, o_lneg, o_lcmp, o_i2l, o_l2i, o_dup, o_pop, o_dupx, o_dup2, o_ic, o_iz, o_nul, o_acmp, o_tsw, o_gI, o_gR, o_pI, o_pZ, o_pR, o_iald, o_bald, o_lald, o_aald, o_iast, o_bast, o_last, o_aast, o_alen, o_newa, o_new, o_mna, o_cast, o_calls, o_callv, o_calli, o_oinit, o_getC, o_refp, o_cpi, o_cpo, o_mmax, o_mmin, o_lmin, o_iret, o_zret, o_lret, o_aret, o_vret, jd_lo, jd_la, jd_nl, jd_pop, List.length_cons, List.length_nil, List.set_cons_zero, List.set_cons_succ, List.getElem?_cons_zero, List.getElem?_cons_succ, List.replicate_succ, List.replicate_zero, List.cons_append, List.nil_append, List.append_nil, Value.category, Option.toList, va_rf, true_implies, false_implies, false_and, and_false, and_true, true_and, and_self, true_or, or_true, false_or, or_false, not_true_eq_false, not_false_eq_true, forall_const, implies_true, if_true, if_false, reduceCtorEq, reduceIte, Nat.reduceAdd, Nat.reduceMul, Nat.reduceSub, Nat.reduceDiv, Nat.reduceMod, Nat.reduceEqDiff, Nat.reduceLeDiff, Nat.reduceLT, Nat.zero_le, Nat.lt_add_one, Nat.le_refl, Nat.sub_zero, Nat.zero_lt_succ, ge_iff_le, ji_m2, ji_m1, ji_0, ji_1, ji_2, ji_3, ji_4, ji_5, ji_6, ji_7, ji_8, ji_10, ji_12, ji_29, ji_30, ji_31, ji_40, ji_60, ji_70, ji_80, ji_81, ji_360, ji_512, ji_972, ji_1000000, ji_2147483639, jl_m1, jl_0, jl_1, jd_sw, ti, Int.reduceAdd, Int.reduceEq, Int.reduceLT, Int.reduceLE, kV2]
      refine ⟨?_, fun z => absurd z (by decide)⟩
      refine k_unload (d := d + 2) kV2 c02.1.2 c02.2.1.1 cI2 u81 u2' (fun h3 c3 g3 => ?_)
      have i459' : zI h2 459 (ad 0 0) = s'.1 2 := c02.2.2.2.2.2.2.2
      rw [i459', a2, Int32.add_sub_cancel]
      have c03 := cV0_fr c02 g3 (by unfold Tg; omega)
      have c04 := cV0_w (k := 4) (x := s.1 2) c03 (by decide)
      have g4 : AG (fun u => u ≠ Tg v 0 0) h3 (wI h3 459 (ad 0 0) (s.1 2)) tg tg := AG_wI (fun z => z c03.1.2)
      have cA3 := cVA_fr cA2 g3 (by unfold Tg; omega) (fun a k _ _ _ => by unfold Tg; omega)
      have cE4 := cVE_fr cE3 g3 (by unfold Tg; omega) (fun i hi => by unfold Tg; omega)
      have cS3 := cVS_fr cS2 g3 (by unfold Tg; omega)
      simp only [e33_96, o_iload, o_lload, o_aload, o_istore, o_lstore, o_astore, o_iinc, o_ipush, o_lpush, o_null, o_ibin, o_ineg, o_lbin, o_ldv, o_lneg, o_lcmp, o_i2l, o_l2i, o_dup, o_pop, o_dupx, o_dup2, o_ic, o_iz, o_nul, o_acmp, o_tsw, o_gI, o_gR, o_pI, o_pZ, o_pR, o_iald, o_bald, o_lald, o_aald, o_iast, o_bast, o_last, o_aast, o_alen, o_newa, o_new, o_mna, o_cast, o_calls, o_callv, o_calli, o_oinit, o_getC, o_refp, o_cpi, o_cpo, o_mmax, o_mmin, o_lmin, o_iret, o_zret, o_lret, o_aret, o_vret, jd_lo, jd_la, jd_nl, jd_pop, List.length_cons, List.length_nil, List.set_cons_zero, List.set_cons_succ, List.getElem?_cons_zero, List.getElem?_cons_succ, List.replicate_succ, List.replicate_zero, List.cons_append, List.nil_append, List.append_nil, Value.category, Option.toList, va_rf, true_implies, false_implies, false_and, and_false, and_true, true_and, and_self, true_or, or_true, false_or, or_false, not_true_eq_false, not_false_eq_true, forall_const, implies_true, if_true, if_false, reduceCtorEq, reduceIte, Nat.reduceAdd, Nat.reduceMul, Nat.reduceSub, Nat.reduceDiv, Nat.reduceMod, Nat.reduceEqDiff, Nat.reduceLeDiff, Nat.reduceLT, Nat.zero_le, Nat.lt_add_one, Nat.le_refl, Nat.sub_zero, Nat.zero_lt_succ, ge_iff_le, ji_m2, ji_m1, ji_0, ji_1, ji_2, ji_3, ji_4, ji_5, ji_6, ji_7, ji_8, ji_10, ji_12, ji_29, ji_30, ji_31, ji_40, ji_60, ji_70, ji_80, ji_81, ji_360, ji_512, ji_972, ji_1000000, ji_2147483639, jl_m1, jl_0, jl_1]
      rw [u3', uca, hca] at cA3
      refine fin _ (cV0_cg c04 (fS_of a0 a5 rfl (vWr_cg a6 a0) rfl)) (cVI_cg (cVI_fr c3 g4 (by unfold Tg; omega) (fun i hi => by unfold Tg; omega)) u1') (cVA_fr cA3 g4 (by unfold Tg; omega) (fun a k _ _ _ => by unfold Tg; omega)) (cVE_fr cE4 g4 (by unfold Tg; omega) (fun i hi => by unfold Tg; omega)) (cVS_fr cS3 g4 (by unfold Tg; omega)) (AG_t (AG_w g3 (fun u hu => by unfold PW Tg at hu; unfold Tg; omega)) (AG_w g4 (fun u hu => by unfold PW Tg at hu; unfold Tg; omega)))
    · -- moving
      have he : e 0 = 1 := hek
      have ti : (1 : Int32).toInt = 1 := by decide
      rw [vDo_1 h6 he] at hz
      have hz := Option.some.inj hz
      have hm : s' = (vMove (nI q) s).2 := by rw [hz]
      rw [he]
      simp only [e33_50, e33_99, e33_100, o_iload, o_lload, o_aload, o_istore, o_lstore, o_astore, o_iinc, o_ipush, o_lpush, o_null, o_ibin, o_ineg, o_lbin, o_ldv, o_lneg, o_lcmp, o_i2l, o_l2i, o_dup, o_pop, o_dupx, o_dup2, o_ic, o_iz, o_nul, o_acmp, o_tsw, o_gI, o_gR, o_pI, o_pZ, o_pR, o_iald, o_bald, o_lald, o_aald, o_iast, o_bast, o_last, o_aast, o_alen, o_newa, o_new, o_mna, o_cast, o_calls, o_callv, o_calli, o_oinit, o_getC, o_refp, o_cpi, o_cpo, o_mmax, o_mmin, o_lmin, o_iret, o_zret, o_lret, o_aret, o_vret, jd_lo, jd_la, jd_nl, jd_pop, List.length_cons, List.length_nil, List.set_cons_zero, List.set_cons_succ, List.getElem?_cons_zero, List.getElem?_cons_succ, List.replicate_succ, List.replicate_zero, List.cons_append, List.nil_append, List.append_nil, Value.category, Option.toList, va_rf, true_implies, false_implies, false_and, and_false, and_true, true_and, and_self, true_or, or_true, false_or, or_false, not_true_eq_false, not_false_eq_true, forall_const, implies_true, if_true, if_false, reduceCtorEq, reduceIte, Nat.reduceAdd, Nat.reduceMul, Nat.reduceSub, Nat.reduceDiv, Nat.reduceMod, Nat.reduceEqDiff, Nat.reduceLeDiff, Nat.reduceLT, Nat.zero_le, Nat.lt_add_one, Nat.le_refl, Nat.sub_zero, Nat.zero_lt_succ, ge_iff_le, ji_m2, ji_m1, ji_0, ji_1, ji_2, ji_3, ji_4, ji_5, ji_6, ji_7, ji_8, ji_10, ji_12, ji_29, ji_30, ji_31, ji_40, ji_60, ji_70, ji_80, ji_81, ji_360, ji_512, ji_972, ji_1000000, ji_2147483639, jl_m1, jl_0, jl_1, jd_sw, ti, Int.reduceAdd, Int.reduceEq, Int.reduceLT, Int.reduceLE, kV2]
      refine ⟨?_, fun z => absurd z (by decide)⟩
      have i456' : zI h2 456 (ad 0 0) = s'.1 5 := c02.2.2.2.2.1
      have i455' : zI h2 455 (ad 0 0) = s'.1 0 := c02.2.2.2.1
      have w6 : vWr q s = 0 := if_pos (Or.inl h6)
      have cn' : cn s' = n0 := by
        rw [hm, ← hcn]
        unfold vMove
        split <;> rfl
      have ca' : ca s' = na := by
        rw [hm, ← hca]
        unfold vMove
        split <;> rfl
      have e22 : s'.2.2 = s.2.2 := by
        rw [hm]
        unfold vMove
        split <;> rfl
      have e21 : ∀ k i, k < 7 → i < n0 → s.2.1 k i = s'.2.1 k i := fun k i hk _ => by
        rw [hm]
        unfold vMove
        split
        · rfl
        · exact (if_neg (fun z => by omega)).symm
      rw [cn'] at cI2
      rw [ca', e22] at cA2
      by_cases h5 : s.1 5 = 0
      · have hmv : s' = (u1 (u1 s.1 4 (-1)) 5 1, s.2) := by rw [hm]; unfold vMove; rw [if_pos h5]
        refine k_moveBack (d := d + 6) kV2 (fun _ => ?_) (fun z => ?_)
        · have c03 := cV0_w (k := 1) (x := 0) c02 (by decide)
          have g3 : AG (fun u => u ≠ Tg v 0 0) h2 (wI h2 456 (ad 0 0) 0) tg tg := AG_wI (fun z => z c02.1.2)
          simp only [e33_103, o_iload, o_lload, o_aload, o_istore, o_lstore, o_astore, o_iinc, o_ipush, o_lpush, o_null, o_ibin, o_ineg, o_lbin, o_ldv, o_lneg, o_lcmp, o_i2l, o_l2i, o_dup, o_pop, o_dupx, o_dup2, o_ic, o_iz, o_nul, o_acmp, o_tsw, o_gI, o_gR, o_pI, o_pZ, o_pR, o_iald, o_bald, o_lald, o_aald, o_iast, o_bast, o_last, o_aast, o_alen, o_newa, o_new, o_mna, o_cast, o_calls, o_callv, o_calli, o_oinit, o_getC, o_refp, o_cpi, o_cpo, o_mmax, o_mmin, o_lmin, o_iret, o_zret, o_lret, o_aret, o_vret, jd_lo, jd_la, jd_nl, jd_pop, List.length_cons, List.length_nil, List.set_cons_zero, List.set_cons_succ, List.getElem?_cons_zero, List.getElem?_cons_succ, List.replicate_succ, List.replicate_zero, List.cons_append, List.nil_append, List.append_nil, Value.category, Option.toList, va_rf, true_implies, false_implies, false_and, and_false, and_true, true_and, and_self, true_or, or_true, false_or, or_false, not_true_eq_false, not_false_eq_true, forall_const, implies_true, if_true, if_false, reduceCtorEq, reduceIte, Nat.reduceAdd, Nat.reduceMul, Nat.reduceSub, Nat.reduceDiv, Nat.reduceMod, Nat.reduceEqDiff, Nat.reduceLeDiff, Nat.reduceLT, Nat.zero_le, Nat.lt_add_one, Nat.le_refl, Nat.sub_zero, Nat.zero_lt_succ, ge_iff_le, ji_m2, ji_m1, ji_0, ji_1, ji_2, ji_3, ji_4, ji_5, ji_6, ji_7, ji_8, ji_10, ji_12, ji_29, ji_30, ji_31, ji_40, ji_60, ji_70, ji_80, ji_81, ji_360, ji_512, ji_972, ji_1000000, ji_2147483639, jl_m1, jl_0, jl_1]
          refine fin _ (cV0_cg c03 (fS_of ?_ h5.symm rfl ?_ ?_)) (cVI_cg (cVI_fr cI2 g3 (by unfold Tg; omega) (fun i hi => by unfold Tg; omega)) e21) (cVA_fr cA2 g3 (by unfold Tg; omega) (fun a k _ _ _ => by unfold Tg; omega)) (cVE_fr cE3 g3 (by unfold Tg; omega) (fun i hi => by unfold Tg; omega)) (cVS_fr cS2 g3 (by unfold Tg; omega)) (AG_w g3 (fun u hu => by unfold PW Tg at hu; unfold Tg; omega))
          · show s'.1 0 = s.1 0
            rw [hmv]; rfl
          · show vWr q s' = vWr q s
            rw [hmv]; rfl
          · show s'.1 2 = s.1 2
            rw [hmv]; rfl
        · rw [i456', hmv] at z
          exact absurd z (show ¬ (1 : Int32) = 0 by decide)
      · have h51 := jbit hI.2.2.2.2.2.1 h5
        have hmv : s' = (u1 (u1 (u1 (u1 s.1 4 (-1)) 5 0) 0 (s.1 0 + 1)) 6 (if s.1 0 + 1 = nI q - 1 then 1 else 0), (fun k i => if k = 8 ∧ 1 ≤ i ∧ i < cn s ∧ s.2.1 5 i = s.1 0 + 1 then 0 else s.2.1 k i), s.2.2) := by rw [hm]; unfold vMove; rw [if_neg h5]
        have b0 : s'.1 0 = s.1 0 + 1 := by rw [hmv]; rfl
        refine k_moveBack (d := d + 6) kV2 (fun z => ?_) (fun _ => ?_)
        · rw [i456', hmv] at z
          exact absurd (show (0 : Int32) = 0 from rfl) z
        · rw [i455', b0, Int32.add_sub_cancel]
          have c03 := cV0_w (k := 1) (x := 1) c02 (by decide)
          have c04 := cV0_w (k := 0) (x := s.1 0) c03 (by decide)
          have g3 : AG (fun u => u ≠ Tg v 0 0) h2 (wI (wI h2 456 (ad 0 0) 1) 455 (ad 0 0) (s.1 0)) tg tg := AG_t (AG_wI (fun z => z c02.1.2)) (AG_wI (fun z => z c02.1.2))
          simp only [e33_103, o_iload, o_lload, o_aload, o_istore, o_lstore, o_astore, o_iinc, o_ipush, o_lpush, o_null, o_ibin, o_ineg, o_lbin, o_ldv, o_lneg, o_lcmp, o_i2l, o_l2i, o_dup, o_pop, o_dupx, o_dup2, o_ic, o_iz, o_nul, o_acmp, o_tsw, o_gI, o_gR, o_pI, o_pZ, o_pR, o_iald, o_bald, o_lald, o_aald, o_iast, o_bast, o_last, o_aast, o_alen, o_newa, o_new, o_mna, o_cast, o_calls, o_callv, o_calli, o_oinit, o_getC, o_refp, o_cpi, o_cpo, o_mmax, o_mmin, o_lmin, o_iret, o_zret, o_lret, o_aret, o_vret, jd_lo, jd_la, jd_nl, jd_pop, List.length_cons, List.length_nil, List.set_cons_zero, List.set_cons_succ, List.getElem?_cons_zero, List.getElem?_cons_succ, List.replicate_succ, List.replicate_zero, List.cons_append, List.nil_append, List.append_nil, Value.category, Option.toList, va_rf, true_implies, false_implies, false_and, and_false, and_true, true_and, and_self, true_or, or_true, false_or, or_false, not_true_eq_false, not_false_eq_true, forall_const, implies_true, if_true, if_false, reduceCtorEq, reduceIte, Nat.reduceAdd, Nat.reduceMul, Nat.reduceSub, Nat.reduceDiv, Nat.reduceMod, Nat.reduceEqDiff, Nat.reduceLeDiff, Nat.reduceLT, Nat.zero_le, Nat.lt_add_one, Nat.le_refl, Nat.sub_zero, Nat.zero_lt_succ, ge_iff_le, ji_m2, ji_m1, ji_0, ji_1, ji_2, ji_3, ji_4, ji_5, ji_6, ji_7, ji_8, ji_10, ji_12, ji_29, ji_30, ji_31, ji_40, ji_60, ji_70, ji_80, ji_81, ji_360, ji_512, ji_972, ji_1000000, ji_2147483639, jl_m1, jl_0, jl_1]
          refine fin _ (cV0_cg c04 (fS_of rfl h51.symm rfl ?_ ?_)) (cVI_cg (cVI_fr cI2 g3 (by unfold Tg; omega) (fun i hi => by unfold Tg; omega)) e21) (cVA_fr cA2 g3 (by unfold Tg; omega) (fun a k _ _ _ => by unfold Tg; omega)) (cVE_fr cE3 g3 (by unfold Tg; omega) (fun i hi => by unfold Tg; omega)) (cVS_fr cS2 g3 (by unfold Tg; omega)) (AG_w g3 (fun u hu => by unfold PW Tg at hu; unfold Tg; omega))
          · show vWr q s' = vWr q s
            rw [w6]
            refine if_pos ?_
            rw [hmv]
            show (if s.1 0 + 1 = nI q - 1 then (1 : Int32) else 0) = 0 ∨ s.1 0 + 1 = nI (q - 1)
            have eq1 : nI q - 1 = nI (q - 1) := by rw [j1I, jn_sub (by have := hJ.1; omega)]
            by_cases hc : s.1 0 + 1 = nI q - 1
            · exact Or.inr (hc.trans eq1)
            · exact Or.inl (if_neg hc)
          · show s'.1 2 = s.1 2
            rw [hmv]; rfl
    · -- an act
      have he : e 0 = 2 := hek
      have ti : (2 : Int32).toInt = 2 := by decide
      rw [vDo_2 h6 he] at hz
      unfold vAct at hz
      split at hz
      · cases hz
      next h12 =>
      injection hz with hz
      injection hz with hz0 hz1
      have hna11 : na < 12 := by
        by_cases e : na = 12
        · exact absurd (by rw [hI.2.2.1.1, e]; rfl) h12
        · omega
      have cn' : cn s' = n0 := by rw [← hz1]; exact hcn
      have ca' : ca s' = na + 1 := by
        rw [← hz1]
        show (s.1 3 + 1).toNatClampNeg = na + 1
        rw [hI.2.2.1.1, jn_sc]
        exact jn_cl (show na + 1 < 13 by omega) (by decide)
      rw [cn'] at cI2
      rw [ca'] at cA2
      rw [he]
      simp only [e33_50, e33_106, e33_107, o_iload, o_lload, o_aload, o_istore, o_lstore, o_astore, o_iinc, o_ipush, o_lpush, o_null, o_ibin, o_ineg, o_lbin, o_ldv, o_lneg, o_lcmp, o_i2l, o_l2i, o_dup, o_pop, o_dupx, o_dup2, o_ic, o_iz, o_nul, o_acmp, o_tsw, o_gI, o_gR, o_pI, o_pZ, o_pR, o_iald, o_bald, o_lald, o_aald, o_iast, o_bast, o_last, o_aast, o_alen, o_newa, o_new, o_mna, o_cast, o_calls, o_callv, o_calli, o_oinit, o_getC, o_refp, o_cpi, o_cpo, o_mmax, o_mmin, o_lmin, o_iret, o_zret, o_lret, o_aret, o_vret, jd_lo, jd_la, jd_nl, jd_pop, List.length_cons, List.length_nil, List.set_cons_zero, List.set_cons_succ, List.getElem?_cons_zero, List.getElem?_cons_succ, List.replicate_succ, List.replicate_zero, List.cons_append, List.nil_append, List.append_nil, Value.category, Option.toList, va_rf, true_implies, false_implies, false_and, and_false, and_true, true_and, and_self, true_or, or_true, false_or, or_false, not_true_eq_false, not_false_eq_true, forall_const, implies_true, if_true, if_false, reduceCtorEq, reduceIte, Nat.reduceAdd, Nat.reduceMul, Nat.reduceSub, Nat.reduceDiv, Nat.reduceMod, Nat.reduceEqDiff, Nat.reduceLeDiff, Nat.reduceLT, Nat.zero_le, Nat.lt_add_one, Nat.le_refl, Nat.sub_zero, Nat.zero_lt_succ, ge_iff_le, ji_m2, ji_m1, ji_0, ji_1, ji_2, ji_3, ji_4, ji_5, ji_6, ji_7, ji_8, ji_10, ji_12, ji_29, ji_30, ji_31, ji_40, ji_60, ji_70, ji_80, ji_81, ji_360, ji_512, ji_972, ji_1000000, ji_2147483639, jl_m1, jl_0, jl_1, jd_sw, ti, Int.reduceAdd, Int.reduceEq, Int.reduceLT, Int.reduceLE, kV2]
      refine ⟨?_, fun z => absurd z (by decide)⟩
      refine k_forgetAct (d := d + 3) kV2 c02.2.1.2.1 cA2 hna11 (fun h3 cA3 g3 => ?_)
      simp only [e33_110, o_iload, o_lload, o_aload, o_istore, o_lstore, o_astore, o_iinc, o_ipush, o_lpush, o_null, o_ibin, o_ineg, o_lbin, o_ldv, o_lneg, o_lcmp, o_i2l, o_l2i, o_dup, o_pop, o_dupx, o_dup2, o_ic, o_iz, o_nul, o_acmp, o_tsw, o_gI, o_gR, o_pI, o_pZ, o_pR, o_iald, o_bald, o_lald, o_aald, o_iast, o_bast, o_last, o_aast, o_alen, o_newa, o_new, o_mna, o_cast, o_calls, o_callv, o_calli, o_oinit, o_getC, o_refp, o_cpi, o_cpo, o_mmax, o_mmin, o_lmin, o_iret, o_zret, o_lret, o_aret, o_vret, jd_lo, jd_la, jd_nl, jd_pop, List.length_cons, List.length_nil, List.set_cons_zero, List.set_cons_succ, List.getElem?_cons_zero, List.getElem?_cons_succ, List.replicate_succ, List.replicate_zero, List.cons_append, List.nil_append, List.append_nil, Value.category, Option.toList, va_rf, true_implies, false_implies, false_and, and_false, and_true, true_and, and_self, true_or, or_true, false_or, or_false, not_true_eq_false, not_false_eq_true, forall_const, implies_true, if_true, if_false, reduceCtorEq, reduceIte, Nat.reduceAdd, Nat.reduceMul, Nat.reduceSub, Nat.reduceDiv, Nat.reduceMod, Nat.reduceEqDiff, Nat.reduceLeDiff, Nat.reduceLT, Nat.zero_le, Nat.lt_add_one, Nat.le_refl, Nat.sub_zero, Nat.zero_lt_succ, ge_iff_le, ji_m2, ji_m1, ji_0, ji_1, ji_2, ji_3, ji_4, ji_5, ji_6, ji_7, ji_8, ji_10, ji_12, ji_29, ji_30, ji_31, ji_40, ji_60, ji_70, ji_80, ji_81, ji_360, ji_512, ji_972, ji_1000000, ji_2147483639, jl_m1, jl_0, jl_1]
      refine fin h3 (cV0_cg (cV0_fr c02 g3 (by unfold Tg; omega)) (fS_of ?_ ?_ rfl ?_ ?_)) (cVI_cg (cVI_fr cI2 g3 (by unfold Tg; omega) (fun i hi => by unfold Tg; omega)) (fun k i _ _ => by rw [← hz1])) (cVA_cg cA3 (fun k a i _ ha _ => ?_) (fun a o ha _ => ?_)) (cVE_fr cE3 g3 (by unfold Tg; omega) (fun i hi => by unfold Tg; omega)) (cVS_fr cS2 g3 (by unfold Tg; omega)) (AG_w g3 (fun u hu => by unfold PW Tg at hu; unfold Tg; omega))
      · show s'.1 0 = s.1 0
        rw [← hz1]; rfl
      · show s'.1 5 = s.1 5
        rw [← hz1]; rfl
      · show vWr q s' = vWr q s
        rw [← hz1]; rfl
      · show s'.1 2 = s.1 2
        rw [← hz1]; rfl
      · rw [← hz1, hca]
        exact (if_neg (by omega)).symm
      · rw [← hz1, hca]
        exact (if_neg (by omega)).symm
    · -- a giving
      have he : e 0 = 3 := hek
      have ti : (3 : Int32).toInt = 3 := by decide
      rw [vDo_3 h6 he] at hz
      split at hz
      · next hc =>
        injection hz with hz
        injection hz with hz0 hz1
        obtain ⟨hna1, hop⟩ := hI.2.2.2.2.1.resolve_left hc.1
        have hin := hc.2.1
        rw [hI.1.1] at hin
        obtain ⟨j, hj, hej⟩ := (jn_ix (by omega)).mp hin
        have hcl : (e 1).toNatClampNeg = j := by rw [hej]; exact jn_cl (show j < 82 by omega) (by decide)
        rw [hcl, hca] at hz1
        have evv : ∀ c, evF s e c = evR (e 0) (e 1) (e 2) (vLess s j (e 2)) (s.1 4) c := fun c => by
          unfold evF
          rw [if_pos (Or.inl he), show nn (e 1) = j from hcl]
        have cEE : cEv h2 tg v (ad 16 l'.length) j (e 2) (vLess s j (e 2)) := ⟨kE2, ⟨l'.length, by omega, tE2⟩, x257.trans ((evv 1).trans hej), x258.trans (evv 2), x259.trans (evv 3)⟩
        have cn' : cn s' = n0 := by rw [← hz1]; exact hcn
        have ca' : ca s' = na := by rw [← hz1]; exact hca
        have cI2' : cVI h2 tg ad v n0 (vTake s j (e 2)) := by
          rw [cn', ← hz1] at cI2; exact cI2
        have cA2' : cVA h2 tg ad v na (vGive1 s (na - 1) j (e 2)).2.2.1 s.2.2.2 := by
          rw [ca', ← hz1] at cA2; exact cA2
        have i457' : zI h2 457 (ad 0 0) = nI (na - 1) := c02.2.2.2.2.2.1.trans hop
        rw [he]
        simp only [e33_50, e33_113, e33_114, e33_115, o_iload, o_lload, o_aload, o_istore, o_lstore, o_astore, o_iinc, o_ipush, o_lpush, o_null, o_ibin, o_ineg, o_lbin, o_ldv, o_lneg, o_lcmp, o_i2l, o_l2i, o_dup, o_pop, o_dupx, o_dup2, o_ic, o_iz, o_nul, o_acmp, o_tsw, o_gI, o_gR, o_pI, o_pZ, o_pR, o_iald, o_bald, o_lald, o_aald, o_iast, o_bast, o_last, o_aast, o_alen, o_newa, o_new, o_mna, o_cast, o_calls, o_callv, o_calli, o_oinit, o_getC, o_refp, o_cpi, o_cpo, o_mmax, o_mmin, o_lmin, o_iret, o_zret, o_lret, o_aret, o_vret, jd_lo, jd_la, jd_nl, jd_pop, List.length_cons, List.length_nil, List.set_cons_zero, List.set_cons_succ, List.getElem?_cons_zero, List.getElem?_cons_succ, List.replicate_succ, List.replicate_zero, List.cons_append, List.nil_append, List.append_nil, Value.category, Option.toList, va_rf, true_implies, false_implies, false_and, and_false, and_true, true_and, and_self, true_or, or_true, false_or, or_false, not_true_eq_false, not_false_eq_true, forall_const, implies_true, if_true, if_false, reduceCtorEq, reduceIte, Nat.reduceAdd, Nat.reduceMul, Nat.reduceSub, Nat.reduceDiv, Nat.reduceMod, Nat.reduceEqDiff, Nat.reduceLeDiff, Nat.reduceLT, Nat.zero_le, Nat.lt_add_one, Nat.le_refl, Nat.sub_zero, Nat.zero_lt_succ, ge_iff_le, ji_m2, ji_m1, ji_0, ji_1, ji_2, ji_3, ji_4, ji_5, ji_6, ji_7, ji_8, ji_10, ji_12, ji_29, ji_30, ji_31, ji_40, ji_60, ji_70, ji_80, ji_81, ji_360, ji_512, ji_972, ji_1000000, ji_2147483639, jl_m1, jl_0, jl_1, jd_sw, ti, Int.reduceAdd, Int.reduceEq, Int.reduceLT, Int.reduceLE, kV2]
        refine ⟨?_, fun z => absurd z (by decide)⟩
        refine k_ungive (d := d) hI hJ kV2 c02.1.2 c02.2.1.1 c02.2.1.2.1 i457' cI2' cA2' (by omega) hj cEE (fun h3 cI3 cA3 g3 => ?_)
        simp only [e33_118, o_iload, o_lload, o_aload, o_istore, o_lstore, o_astore, o_iinc, o_ipush, o_lpush, o_null, o_ibin, o_ineg, o_lbin, o_ldv, o_lneg, o_lcmp, o_i2l, o_l2i, o_dup, o_pop, o_dupx, o_dup2, o_ic, o_iz, o_nul, o_acmp, o_tsw, o_gI, o_gR, o_pI, o_pZ, o_pR, o_iald, o_bald, o_lald, o_aald, o_iast, o_bast, o_last, o_aast, o_alen, o_newa, o_new, o_mna, o_cast, o_calls, o_callv, o_calli, o_oinit, o_getC, o_refp, o_cpi, o_cpo, o_mmax, o_mmin, o_lmin, o_iret, o_zret, o_lret, o_aret, o_vret, jd_lo, jd_la, jd_nl, jd_pop, List.length_cons, List.length_nil, List.set_cons_zero, List.set_cons_succ, List.getElem?_cons_zero, List.getElem?_cons_succ, List.replicate_succ, List.replicate_zero, List.cons_append, List.nil_append, List.append_nil, Value.category, Option.toList, va_rf, true_implies, false_implies, false_and, and_false, and_true, true_and, and_self, true_or, or_true, false_or, or_false, not_true_eq_false, not_false_eq_true, forall_const, implies_true, if_true, if_false, reduceCtorEq, reduceIte, Nat.reduceAdd, Nat.reduceMul, Nat.reduceSub, Nat.reduceDiv, Nat.reduceMod, Nat.reduceEqDiff, Nat.reduceLeDiff, Nat.reduceLT, Nat.zero_le, Nat.lt_add_one, Nat.le_refl, Nat.sub_zero, Nat.zero_lt_succ, ge_iff_le, ji_m2, ji_m1, ji_0, ji_1, ji_2, ji_3, ji_4, ji_5, ji_6, ji_7, ji_8, ji_10, ji_12, ji_29, ji_30, ji_31, ji_40, ji_60, ji_70, ji_80, ji_81, ji_360, ji_512, ji_972, ji_1000000, ji_2147483639, jl_m1, jl_0, jl_1]
        refine fin h3 (cV0_cg (cV0_fr c02 g3 ⟨fun i hi => by unfold Tg; omega, by unfold Tg; omega, by unfold Tg; omega, by unfold Tg; omega⟩) (fS_of ?_ ?_ rfl ?_ ?_)) cI3 cA3 (cVE_fr cE3 g3 ⟨fun i hi => by unfold Tg; omega, by unfold Tg; omega, by unfold Tg; omega, by unfold Tg; omega⟩ (fun k hk => ⟨fun i hi => by unfold Tg; omega, by unfold Tg; omega, by unfold Tg; omega, by unfold Tg; omega⟩)) (cVS_fr cS2 g3 ⟨fun i hi => by unfold Tg; omega, by unfold Tg; omega, by unfold Tg; omega, by unfold Tg; omega⟩) (AG_w g3 (fun u hu => by
          unfold PW Tg at hu
          exact ⟨fun i hi => by unfold Tg; omega, by unfold Tg; omega, by unfold Tg; omega, by unfold Tg; omega⟩))
        · show s'.1 0 = s.1 0
          rw [← hz1]; rfl
        · show s'.1 5 = s.1 5
          rw [← hz1]; rfl
        · show vWr q s' = vWr q s
          rw [← hz1]; rfl
        · show s'.1 2 = s.1 2
          rw [← hz1]; rfl
      · cases hz
    · -- an expense
      have he : e 0 = 4 := hek
      have ti : (4 : Int32).toInt = 4 := by decide
      rw [vDo_4 h6 he] at hz
      split at hz
      · next hc =>
        injection hz with hz
        injection hz with hz0 hz1
        obtain ⟨hna1, hop⟩ := hI.2.2.2.2.1.resolve_left hc.1
        obtain ⟨j, hj, hej⟩ := (jn_ix (n := 30) (by decide)).mp (show 0 ≤ e 1 ∧ e 1 ≤ nI 30 - 1 from hc.2.1)
        have hcl : (e 1).toNatClampNeg = j := by rw [hej]; exact jn_cl (show j < 82 by omega) (by decide)
        rw [hcl, hca] at hz1
        have evv : ∀ c, evF s e c = evR 4 (e 1) (e 2) 0 (s.1 4) c := fun c => by
          unfold evF
          rw [if_neg (fun z => by rw [he] at z; exact absurd z (by decide)), if_pos he]
        have cEE : cEv h2 tg v (ad 16 l'.length) j (e 2) 0 := ⟨kE2, ⟨l'.length, by omega, tE2⟩, x257.trans ((evv 1).trans hej), x258.trans (evv 2), x259.trans (evv 3)⟩
        have cn' : cn s' = n0 := by rw [← hz1]; exact hcn
        have ca' : ca s' = na := by rw [← hz1]; exact hca
        have cI2' : cVI h2 tg ad v n0 s.2.1 := by
          rw [cn', ← hz1] at cI2; exact cI2
        have cA2' : cVA h2 tg ad v na s.2.2.1 (u2 s.2.2.2 (na - 1) j (s.2.2.2 (na - 1) j + e 2)) := by
          rw [ca', ← hz1] at cA2; exact cA2
        have i457' : zI h2 457 (ad 0 0) = nI (na - 1) := c02.2.2.2.2.2.1.trans hop
        rw [he]
        simp only [e33_50, e33_121, e33_122, e33_123, o_iload, o_lload, o_aload, o_istore, o_lstore, o_astore, o_iinc, o_ipush, o_lpush, o_null, o_ibin, o_ineg, o_lbin, o_ldv, o_lneg, o_lcmp, o_i2l, o_l2i, o_dup, o_pop, o_dupx, o_dup2, o_ic, o_iz, o_nul, o_acmp, o_tsw, o_gI, o_gR, o_pI, o_pZ, o_pR, o_iald, o_bald, o_lald, o_aald, o_iast, o_bast, o_last, o_aast, o_alen, o_newa, o_new, o_mna, o_cast, o_calls, o_callv, o_calli, o_oinit, o_getC, o_refp, o_cpi, o_cpo, o_mmax, o_mmin, o_lmin, o_iret, o_zret, o_lret, o_aret, o_vret, jd_lo, jd_la, jd_nl, jd_pop, List.length_cons, List.length_nil, List.set_cons_zero, List.set_cons_succ, List.getElem?_cons_zero, List.getElem?_cons_succ, List.replicate_succ, List.replicate_zero, List.cons_append, List.nil_append, List.append_nil, Value.category, Option.toList, va_rf, true_implies, false_implies, false_and, and_false, and_true, true_and, and_self, true_or, or_true, false_or, or_false, not_true_eq_false, not_false_eq_true, forall_const, implies_true, if_true, if_false, reduceCtorEq, reduceIte, Nat.reduceAdd, Nat.reduceMul, Nat.reduceSub, Nat.reduceDiv, Nat.reduceMod, Nat.reduceEqDiff, Nat.reduceLeDiff, Nat.reduceLT, Nat.zero_le, Nat.lt_add_one, Nat.le_refl, Nat.sub_zero, Nat.zero_lt_succ, ge_iff_le, ji_m2, ji_m1, ji_0, ji_1, ji_2, ji_3, ji_4, ji_5, ji_6, ji_7, ji_8, ji_10, ji_12, ji_29, ji_30, ji_31, ji_40, ji_60, ji_70, ji_80, ji_81, ji_360, ji_512, ji_972, ji_1000000, ji_2147483639, jl_m1, jl_0, jl_1, jd_sw, ti, Int.reduceAdd, Int.reduceEq, Int.reduceLT, Int.reduceLE, kV2]
        refine ⟨?_, fun z => absurd z (by decide)⟩
        refine k_unspend (d := d + 2) kV2 c02.1.2 c02.2.1.2.1 i457' cA2' hna (by omega) hj cEE (fun h3 cA3 g3 => ?_)
        simp only [e33_126, o_iload, o_lload, o_aload, o_istore, o_lstore, o_astore, o_iinc, o_ipush, o_lpush, o_null, o_ibin, o_ineg, o_lbin, o_ldv, o_lneg, o_lcmp, o_i2l, o_l2i, o_dup, o_pop, o_dupx, o_dup2, o_ic, o_iz, o_nul, o_acmp, o_tsw, o_gI, o_gR, o_pI, o_pZ, o_pR, o_iald, o_bald, o_lald, o_aald, o_iast, o_bast, o_last, o_aast, o_alen, o_newa, o_new, o_mna, o_cast, o_calls, o_callv, o_calli, o_oinit, o_getC, o_refp, o_cpi, o_cpo, o_mmax, o_mmin, o_lmin, o_iret, o_zret, o_lret, o_aret, o_vret, jd_lo, jd_la, jd_nl, jd_pop, List.length_cons, List.length_nil, List.set_cons_zero, List.set_cons_succ, List.getElem?_cons_zero, List.getElem?_cons_succ, List.replicate_succ, List.replicate_zero, List.cons_append, List.nil_append, List.append_nil, Value.category, Option.toList, va_rf, true_implies, false_implies, false_and, and_false, and_true, true_and, and_self, true_or, or_true, false_or, or_false, not_true_eq_false, not_false_eq_true, forall_const, implies_true, if_true, if_false, reduceCtorEq, reduceIte, Nat.reduceAdd, Nat.reduceMul, Nat.reduceSub, Nat.reduceDiv, Nat.reduceMod, Nat.reduceEqDiff, Nat.reduceLeDiff, Nat.reduceLT, Nat.zero_le, Nat.lt_add_one, Nat.le_refl, Nat.sub_zero, Nat.zero_lt_succ, ge_iff_le, ji_m2, ji_m1, ji_0, ji_1, ji_2, ji_3, ji_4, ji_5, ji_6, ji_7, ji_8, ji_10, ji_12, ji_29, ji_30, ji_31, ji_40, ji_60, ji_70, ji_80, ji_81, ji_360, ji_512, ji_972, ji_1000000, ji_2147483639, jl_m1, jl_0, jl_1]
        refine fin h3 (cV0_cg (cV0_fr c02 g3 (by unfold Tg; omega)) (fS_of ?_ ?_ rfl ?_ ?_)) (cVI_fr cI2' g3 (by unfold Tg; omega) (fun i hi => by unfold Tg; omega)) (cVA_cg cA3 (fun _ _ _ _ _ _ => rfl) (fun a o _ _ => ?_)) (cVE_fr cE3 g3 (by unfold Tg; omega) (fun k hk => by unfold Tg; omega)) (cVS_fr cS2 g3 (by unfold Tg; omega)) (AG_w g3 (fun u hu => by unfold PW Tg at hu; unfold Tg; omega))
        · show s'.1 0 = s.1 0
          rw [← hz1]
        · show s'.1 5 = s.1 5
          rw [← hz1]
        · show vWr q s' = vWr q s
          rw [← hz1]; rfl
        · show s'.1 2 = s.1 2
          rw [← hz1]
        · have w : u2 s.2.2.2 (na - 1) j (s.2.2.2 (na - 1) j + e 2) (na - 1) j = s.2.2.2 (na - 1) j + e 2 := if_pos ⟨rfl, rfl⟩
          rw [w, ijcan]
          unfold u2
          by_cases z : a = na - 1 ∧ o = j
          · rw [if_pos z, z.1, z.2]
          · rw [if_neg z, if_neg z]
      · cases hz
    · -- a loss
      have he : e 0 = 5 := hek
      have ti : (5 : Int32).toInt = 5 := by decide
      rw [vDo_5 h6 he] at hz
      split at hz
      · next hc =>
        injection hz with hz
        injection hz with hz0 hz1
        have hin := hc.1
        rw [hI.1.1] at hin
        obtain ⟨j, hj, hej⟩ := (jn_ix (by omega)).mp hin
        have hcl : (e 1).toNatClampNeg = j := by rw [hej]; exact jn_cl (show j < 82 by omega) (by decide)
        rw [hcl] at hz1
        have evv : ∀ c, evF s e c = evR (e 0) (e 1) (e 2) (vLess s j (e 2)) (s.1 4) c := fun c => by
          unfold evF
          rw [if_pos (Or.inr he), show nn (e 1) = j from hcl]
        have cEE : cEv h2 tg v (ad 16 l'.length) j (e 2) (vLess s j (e 2)) := ⟨kE2, ⟨l'.length, by omega, tE2⟩, x257.trans ((evv 1).trans hej), x258.trans (evv 2), x259.trans (evv 3)⟩
        have cn' : cn s' = n0 := by rw [← hz1]; exact hcn
        have ca' : ca s' = na := by rw [← hz1]; exact hca
        have cI2' : cVI h2 tg ad v n0 (vTake s j (e 2)) := by
          rw [cn', ← hz1] at cI2; exact cI2
        have cA2' : cVA h2 tg ad v na s.2.2.1 s.2.2.2 := by
          rw [ca', ← hz1] at cA2; exact cA2
        rw [he]
        simp only [e33_50, e33_129, e33_130, e33_131, o_iload, o_lload, o_aload, o_istore, o_lstore, o_astore, o_iinc, o_ipush, o_lpush, o_null, o_ibin, o_ineg, o_lbin, o_ldv, o_lneg, o_lcmp, o_i2l, o_l2i, o_dup, o_pop, o_dupx, o_dup2, o_ic, o_iz, o_nul, o_acmp, o_tsw, o_gI, o_gR, o_pI, o_pZ, o_pR, o_iald, o_bald, o_lald, o_aald, o_iast, o_bast, o_last, o_aast, o_alen, o_newa, o_new, o_mna, o_cast, o_calls, o_callv, o_calli, o_oinit, o_getC, o_refp, o_cpi, o_cpo, o_mmax, o_mmin, o_lmin, o_iret, o_zret, o_lret, o_aret, o_vret, jd_lo, jd_la, jd_nl, jd_pop, List.length_cons, List.length_nil, List.set_cons_zero, List.set_cons_succ, List.getElem?_cons_zero, List.getElem?_cons_succ, List.replicate_succ, List.replicate_zero, List.cons_append, List.nil_append, List.append_nil, Value.category, Option.toList, va_rf, true_implies, false_implies, false_and, and_false, and_true, true_and, and_self, true_or, or_true, false_or, or_false, not_true_eq_false, not_false_eq_true, forall_const, implies_true, if_true, if_false, reduceCtorEq, reduceIte, Nat.reduceAdd, Nat.reduceMul, Nat.reduceSub, Nat.reduceDiv, Nat.reduceMod, Nat.reduceEqDiff, Nat.reduceLeDiff, Nat.reduceLT, Nat.zero_le, Nat.lt_add_one, Nat.le_refl, Nat.sub_zero, Nat.zero_lt_succ, ge_iff_le, ji_m2, ji_m1, ji_0, ji_1, ji_2, ji_3, ji_4, ji_5, ji_6, ji_7, ji_8, ji_10, ji_12, ji_29, ji_30, ji_31, ji_40, ji_60, ji_70, ji_80, ji_81, ji_360, ji_512, ji_972, ji_1000000, ji_2147483639, jl_m1, jl_0, jl_1, jd_sw, ti, Int.reduceAdd, Int.reduceEq, Int.reduceLT, Int.reduceLE, kV2]
        refine ⟨?_, fun z => absurd z (by decide)⟩
        refine k_putBack (d := d + 1) kV2 c02.1.2 c02.2.1.1 cI2' hn81 hj cEE (fun h3 c3 g3 => ?_)
        simp only [e33_134, o_iload, o_lload, o_aload, o_istore, o_lstore, o_astore, o_iinc, o_ipush, o_lpush, o_null, o_ibin, o_ineg, o_lbin, o_ldv, o_lneg, o_lcmp, o_i2l, o_l2i, o_dup, o_pop, o_dupx, o_dup2, o_ic, o_iz, o_nul, o_acmp, o_tsw, o_gI, o_gR, o_pI, o_pZ, o_pR, o_iald, o_bald, o_lald, o_aald, o_iast, o_bast, o_last, o_aast, o_alen, o_newa, o_new, o_mna, o_cast, o_calls, o_callv, o_calli, o_oinit, o_getC, o_refp, o_cpi, o_cpo, o_mmax, o_mmin, o_lmin, o_iret, o_zret, o_lret, o_aret, o_vret, jd_lo, jd_la, jd_nl, jd_pop, List.length_cons, List.length_nil, List.set_cons_zero, List.set_cons_succ, List.getElem?_cons_zero, List.getElem?_cons_succ, List.replicate_succ, List.replicate_zero, List.cons_append, List.nil_append, List.append_nil, Value.category, Option.toList, va_rf, true_implies, false_implies, false_and, and_false, and_true, true_and, and_self, true_or, or_true, false_or, or_false, not_true_eq_false, not_false_eq_true, forall_const, implies_true, if_true, if_false, reduceCtorEq, reduceIte, Nat.reduceAdd, Nat.reduceMul, Nat.reduceSub, Nat.reduceDiv, Nat.reduceMod, Nat.reduceEqDiff, Nat.reduceLeDiff, Nat.reduceLT, Nat.zero_le, Nat.lt_add_one, Nat.le_refl, Nat.sub_zero, Nat.zero_lt_succ, ge_iff_le, ji_m2, ji_m1, ji_0, ji_1, ji_2, ji_3, ji_4, ji_5, ji_6, ji_7, ji_8, ji_10, ji_12, ji_29, ji_30, ji_31, ji_40, ji_60, ji_70, ji_80, ji_81, ji_360, ji_512, ji_972, ji_1000000, ji_2147483639, jl_m1, jl_0, jl_1]
        refine fin h3 (cV0_cg (cV0_fr c02 g3 (fun i hi => by unfold Tg; omega)) (fS_of ?_ ?_ rfl ?_ ?_)) (cVI_cg c3 (fun k i hk hi => vTake_un hI hJ hj (e 2) k i hk hi)) (cVA_fr cA2' g3 (fun i hi => by unfold Tg; omega) (fun a k _ _ _ i hi => by unfold Tg; omega)) (cVE_fr cE3 g3 (fun i hi => by unfold Tg; omega) (fun k hk i hi => by unfold Tg; omega)) (cVS_fr cS2 g3 (fun i hi => by unfold Tg; omega)) (AG_w g3 (fun u hu i hi => by unfold PW Tg at hu; unfold Tg; omega))
        · show s'.1 0 = s.1 0
          rw [← hz1]; rfl
        · show s'.1 5 = s.1 5
          rw [← hz1]; rfl
        · show vWr q s' = vWr q s
          rw [← hz1]; rfl
        · show s'.1 2 = s.1 2
          rw [← hz1]; rfl
      · cases hz
    · -- the ship was lost
      have he : e 0 = 6 := hek
      have ti : (6 : Int32).toInt = 6 := by decide
      rw [vDo_6 h6 he] at hz
      split at hz
      · cases hz
      next h5 =>
      injection hz with hz
      injection hz with hz0 hz1
      have h51 := jbit hI.2.2.2.2.2.1 h5
      have cn' : cn s' = n0 := by rw [← hz1]; exact hcn
      have ca' : ca s' = na := by rw [← hz1]; exact hca
      have hW := cW e l' rfl he
      rw [hs, hcn] at hW
      have fv : ∀ k i, k < 7 → s'.2.1 k i = if i < n0 ∧ k = 2 ∧ ¬ s.2.1 8 i = 0 then 0 else s.2.1 k i := fun k i hk => by
        rw [← hz1]
        show (if i < cn s ∧ k = 2 ∧ ¬ s.2.1 8 i = 0 then 0 else if i < cn s ∧ k = 8 then _ else s.2.1 k i) = _
        rw [hcn]
        by_cases z : i < n0 ∧ k = 2 ∧ ¬ s.2.1 8 i = 0
        · rw [if_pos z, if_pos z]
        · rw [if_neg z, if_neg z, if_neg (fun w => by omega)]
      rw [cn'] at cI2
      rw [ca'] at cA2
      rw [he]
      simp only [e33_50, e33_137, e33_138, o_iload, o_lload, o_aload, o_istore, o_lstore, o_astore, o_iinc, o_ipush, o_lpush, o_null, o_ibin, o_ineg, o_lbin, o_ldv, o_lneg, o_lcmp, o_i2l, o_l2i, o_dup, o_pop, o_dupx, o_dup2, o_ic, o_iz, o_nul, o_acmp, o_tsw, o_gI, o_gR, o_pI, o_pZ, o_pR, o_iald, o_bald, o_lald, o_aald, o_iast, o_bast, o_last, o_aast, o_alen, o_newa, o_new, o_mna, o_cast, o_calls, o_callv, o_calli, o_oinit, o_getC, o_refp, o_cpi, o_cpo, o_mmax, o_mmin, o_lmin, o_iret, o_zret, o_lret, o_aret, o_vret, jd_lo, jd_la, jd_nl, jd_pop, List.length_cons, List.length_nil, List.set_cons_zero, List.set_cons_succ, List.getElem?_cons_zero, List.getElem?_cons_succ, List.replicate_succ, List.replicate_zero, List.cons_append, List.nil_append, List.append_nil, Value.category, Option.toList, va_rf, true_implies, false_implies, false_and, and_false, and_true, true_and, and_self, true_or, or_true, false_or, or_false, not_true_eq_false, not_false_eq_true, forall_const, implies_true, if_true, if_false, reduceCtorEq, reduceIte, Nat.reduceAdd, Nat.reduceMul, Nat.reduceSub, Nat.reduceDiv, Nat.reduceMod, Nat.reduceEqDiff, Nat.reduceLeDiff, Nat.reduceLT, Nat.zero_le, Nat.lt_add_one, Nat.le_refl, Nat.sub_zero, Nat.zero_lt_succ, ge_iff_le, ji_m2, ji_m1, ji_0, ji_1, ji_2, ji_3, ji_4, ji_5, ji_6, ji_7, ji_8, ji_10, ji_12, ji_29, ji_30, ji_31, ji_40, ji_60, ji_70, ji_80, ji_81, ji_360, ji_512, ji_972, ji_1000000, ji_2147483639, jl_m1, jl_0, jl_1, jd_sw, ti, Int.reduceAdd, Int.reduceEq, Int.reduceLT, Int.reduceLE, kV2]
      refine ⟨?_, fun z => absurd z (by decide)⟩
      refine k_unwreck (d := d + 3) hI hJ h6 c02 ?_ cI2 (fun i hi => ?_) (fun i hi hab => ?_) (fun h3 c03 g3 cI3 => ?_)
      · show s'.1 0 = s.1 0
        rw [← hz1]; rfl
      · rw [fv 5 i (by decide), if_neg (fun z => absurd z.2.1 (by decide))]
      · rw [y327 i (by rw [cn']; exact hi)]
        exact hW i hi hab
      · simp only [e33_141, o_iload, o_lload, o_aload, o_istore, o_lstore, o_astore, o_iinc, o_ipush, o_lpush, o_null, o_ibin, o_ineg, o_lbin, o_ldv, o_lneg, o_lcmp, o_i2l, o_l2i, o_dup, o_pop, o_dupx, o_dup2, o_ic, o_iz, o_nul, o_acmp, o_tsw, o_gI, o_gR, o_pI, o_pZ, o_pR, o_iald, o_bald, o_lald, o_aald, o_iast, o_bast, o_last, o_aast, o_alen, o_newa, o_new, o_mna, o_cast, o_calls, o_callv, o_calli, o_oinit, o_getC, o_refp, o_cpi, o_cpo, o_mmax, o_mmin, o_lmin, o_iret, o_zret, o_lret, o_aret, o_vret, jd_lo, jd_la, jd_nl, jd_pop, List.length_cons, List.length_nil, List.set_cons_zero, List.set_cons_succ, List.getElem?_cons_zero, List.getElem?_cons_succ, List.replicate_succ, List.replicate_zero, List.cons_append, List.nil_append, List.append_nil, Value.category, Option.toList, va_rf, true_implies, false_implies, false_and, and_false, and_true, true_and, and_self, true_or, or_true, false_or, or_false, not_true_eq_false, not_false_eq_true, forall_const, implies_true, if_true, if_false, reduceCtorEq, reduceIte, Nat.reduceAdd, Nat.reduceMul, Nat.reduceSub, Nat.reduceDiv, Nat.reduceMod, Nat.reduceEqDiff, Nat.reduceLeDiff, Nat.reduceLT, Nat.zero_le, Nat.lt_add_one, Nat.le_refl, Nat.sub_zero, Nat.zero_lt_succ, ge_iff_le, ji_m2, ji_m1, ji_0, ji_1, ji_2, ji_3, ji_4, ji_5, ji_6, ji_7, ji_8, ji_10, ji_12, ji_29, ji_30, ji_31, ji_40, ji_60, ji_70, ji_80, ji_81, ji_360, ji_512, ji_972, ji_1000000, ji_2147483639, jl_m1, jl_0, jl_1]
        refine fin h3 (cV0_cg c03 (fS_of ?_ h51.symm rfl (if_pos (Or.inl h6)).symm ?_)) (cVI_cg cI3 (fun k i hk hi => ?_)) (cVA_cg (cVA_fr cA2 g3 ⟨by unfold Tg; omega, fun i hi => by unfold Tg; omega⟩ (fun a k _ _ _ => ⟨by unfold Tg; omega, fun i hi => by unfold Tg; omega⟩)) (fun k a i _ _ _ => by rw [← hz1]; rfl) (fun a o _ _ => by rw [← hz1]; rfl)) (cVE_fr cE3 g3 ⟨by unfold Tg; omega, fun i hi => by unfold Tg; omega⟩ (fun k hk => ⟨by unfold Tg; omega, fun i hi => by unfold Tg; omega⟩)) (cVS_fr cS2 g3 ⟨by unfold Tg; omega, fun i hi => by unfold Tg; omega⟩) (AG_w g3 (fun u hu => by
          unfold PW Tg at hu
          exact ⟨by unfold Tg; omega, fun i hi => by unfold Tg; omega⟩))
        · show s'.1 0 = s.1 0
          rw [← hz1]; rfl
        · show s'.1 2 = s.1 2
          rw [← hz1]; rfl
        · rw [fv k i hk]
          by_cases z : k = 2 ∧ i < n0 ∧ ¬ s.2.1 8 i = 0
          · rw [if_pos z, z.1]
          · rw [if_neg z, if_neg (fun w => z ⟨w.2.1, w.1, w.2.2⟩)]
end
