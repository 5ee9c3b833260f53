/-! the reference notes an event -/
section
variable {h : jd_H}
theorem wA_s {a i : Nat} {x : Int32} : zA (wA h a i x) a i = x := by rw [rw_AA]; exact if_pos ⟨rfl, rfl⟩
theorem wA_ne {a i b j : Nat} {x : Int32} (hn : j ≠ i) : zA (wA h a i x) b j = zA h b j := by rw [rw_AA]; exact if_neg (fun z => hn z.2)
theorem wA_na {a i b : Nat} {x : Int32} (hn : b ≠ a) : zA (wA h a i x) b = zA h b := by funext j; rw [rw_AA]; exact if_neg (fun z => hn z.1)
end
theorem evk_n {e : Ev} {l : List Ev} : evk (e :: l) l.length = e := if_pos rfl
theorem evk_o {e : Ev} {l : List Ev} {k : Nat} (hk : ¬ k = l.length) : evk (e :: l) k = evk l k := if_neg hk
def ev7 (k a b c d e f : Int32) : Ev := fun i => if i = 0 then k else if i = 1 then a else if i = 2 then b else if i = 3 then c else if i = 4 then d else if i = 5 then e else f
def sv (po w0 : Nat → Int32) (qq : Nat → Nat) (El : Nat → List Ev) (v : Nat) : VS := rep (nI (qq v)) (po v) (w0 v) (El v)
section
variable {g d m v W len : Nat} {ma : Nat → Nat} {h : jd_H} {Q : jd_Q} {tg : Nat → Nat} {po w0 : Nat → Int32} {qq rw : Nat → Nat} {El : Nat → List Ev} {e : Ev}
set_option maxRecDepth 100000 in
theorem k_evT {r R c s : Nat} {rr : Int32} {y : Option Value} (hM : MS h m ma) (hv : v < 6) (hlen : len ≤ 511) (hmany : zA h (ma 1) v = nI len) (hrow : zO h (ma 0) v = some r) (hk : zK h r = 10) (hcap : 7 * len + 7 ≤ zL h r) (hL : zL h r ≤ 7168) (hne : r ≠ ma 1)
    (hQ : ∀ h4, zK h4 = zK h → zI h4 = zI h → zR h4 = zR h → zL h4 = zL h → zJ h4 = zJ h → zO h4 = zO h → (∀ c, c < 7 → zA h4 r (7 * len + c) = e c) → (∀ x, x < 7 * len → zA h4 r x = zA h r x) → (∀ a, a ≠ r → a ≠ ma 1 → zA h4 a = zA h a) → zA h4 (ma 1) v = nI (len + 1) → (∀ u, u ≠ v → zA h4 (ma 1) u = zA h (ma 1) u) → Q (some (.int rr)) h4) :
    jd_w g d 83 Q 99 [some (.ref m), some (.int (nI v)), some (.int (e 0)), some (.int (e 1)), some (.int (e 2)), some (.int (e 3)), some (.int (e 4)), some (.int (e 5)), some (.int (e 6)), some (.int rr), some (.int (nI (7 * len))), y] [] h c s := by
  have i0 : 7 * len < zL h r := by omega
  have i1 : 7 * len + 1 < zL h r := by omega
  have i2 : 7 * len + 2 < zL h r := by omega
  have i3 : 7 * len + 3 < zL h r := by omega
  have i4 : 7 * len + 4 < zL h r := by omega
  have i5 : 7 * len + 5 < zL h r := by omega
  have i6 : 7 * len + 6 < zL h r := by omega
  have hLL : zL h r < 2147483648 := by omega
  have hne' : ¬ ma 1 = r := fun z => hne z.symm
  simp only [e83_99, e83_100, e83_103, e83_104, e83_105, e83_107, e83_109, e83_111, e83_112, e83_113, e83_115, e83_117, e83_118, e83_119, e83_120, e83_121, e83_123, e83_125, e83_126, e83_127, e83_129, e83_130, e83_132, e83_134, e83_135, e83_136, e83_138, e83_139, e83_141, e83_143, e83_144, e83_145, e83_147, e83_148, e83_150, e83_152, e83_153, e83_154, e83_156, e83_157, e83_159, e83_161, e83_163, e83_164, e83_166, e83_167, e83_168, e83_171, e83_172, e83_173, e83_174, e83_175, e83_176, e83_177, e83_179, o_iload, o_lload, o_aload, o_istore, o_lstore, o_astore, o_iinc, o_ipush, o_lpush, o_null, o_ibin, o_ineg, o_lbin, o_ldv, o_lneg, o_lcmp, o_i2l, o_l2i, o_dup, o_pop, o_dupx, o_dup2, o_ic, o_iz, o_nul, o_acmp, o_tsw, o_gI, o_gR, o_pI, o_pZ, o_pR, o_iald, o_bald, o_lald, o_aald, o_iast, o_bast, o_last, o_aast, o_alen, o_newa, o_new, o_mna, o_cast, o_calls, o_callv, o_calli, o_oinit, o_getC, o_refp, o_cpi, o_cpo, o_mmax, o_mmin, o_lmin, o_iret, o_zret, o_lret, o_aret, o_vret, jd_lo, jd_la, jd_nl, jd_pop, List.length_cons, List.length_nil, List.set_cons_zero, List.set_cons_succ, List.getElem?_cons_zero, List.getElem?_cons_succ, List.replicate_succ, List.replicate_zero, List.cons_append, List.nil_append, List.append_nil, Value.category, Option.toList, va_rf, true_implies, false_implies, false_and, and_false, and_true, true_and, and_self, true_or, or_true, false_or, or_false, not_true_eq_false, not_false_eq_true, forall_const, implies_true, if_true, if_false, reduceCtorEq, reduceIte, Nat.reduceAdd, Nat.reduceMul, Nat.reduceSub, Nat.reduceDiv, Nat.reduceMod, Nat.reduceEqDiff, Nat.reduceLeDiff, Nat.reduceLT, Nat.zero_le, Nat.lt_add_one, Nat.le_refl, Nat.sub_zero, Nat.zero_lt_succ, ge_iff_le, ji_m2, ji_m1, ji_0, ji_1, ji_2, ji_3, ji_4, ji_5, ji_6, ji_7, ji_8, ji_10, ji_12, ji_29, ji_30, ji_31, ji_40, ji_60, ji_70, ji_80, ji_81, ji_360, ji_512, ji_972, ji_1000000, ji_2147483639, jl_m1, jl_0, jl_1, rw_KA, rw_IA, rw_RA, rw_LA, rw_JA, rw_OA, MS_K hM, MS_inj hM, MS_R0 hM, MS_K0 hM, MS_L0 hM, MS_R1 hM, MS_K1 hM, MS_L1 hM, MS_R2 hM, MS_K2 hM, MS_L2 hM, MS_R3 hM, MS_K3 hM, MS_L3 hM, MS_R4 hM, MS_K4 hM, MS_L4 hM, MS_R14 hM, MS_K14 hM, MS_L14 hM, MS_R15 hM, MS_K15 hM, MS_L15 hM, MS_R16 hM, MS_K16 hM, MS_L16 hM, MS_R17 hM, MS_K17 hM, MS_L17 hM, MS_R18 hM, MS_K18 hM, MS_L18 hM, MS_R19 hM, MS_K19 hM, MS_L19 hM, MS_R20 hM, MS_K20 hM, MS_L20 hM, MS_R21 hM, MS_K21 hM, MS_L21 hM, MS_R22 hM, MS_K22 hM, MS_L22 hM, MS_R23 hM, MS_K23 hM, MS_L23 hM, MS_R24 hM, MS_K24 hM, MS_L24 hM, MS_R25 hM, MS_K25 hM, MS_L25 hM, MS_R26 hM, MS_K26 hM, MS_L26 hM, MS_R27 hM, MS_K27 hM, MS_L27 hM, MS_R28 hM, MS_K28 hM, MS_L28 hM, MS_R29 hM, MS_K29 hM, MS_L29 hM, MS_R30 hM, MS_K30 hM, MS_L30 hM, MS_R31 hM, MS_K31 hM, MS_L31 hM, MS_R32 hM, MS_K32 hM, MS_L32 hM, MS_R33 hM, MS_K33 hM, MS_L33 hM, MS_R34 hM, MS_K34 hM, MS_L34 hM, MS_R35 hM, MS_K35 hM, MS_L35 hM, MS_R36 hM, MS_K36 hM, MS_L36 hM, MS_R37 hM, MS_K37 hM, MS_L37 hM, MS_R38 hM, MS_K38 hM, MS_L38 hM, MS_R41 hM, MS_K41 hM, MS_L41 hM, jn_in hv (by decide), jn_cl hv (by decide), hrow, hk, j7, j1I, j2I, j3I, j4I, j5I, j6I, jmul, nI_add, jn_in i0 hLL, jn_in i1 hLL, jn_in i2 hLL, jn_in i3 hLL, jn_in i4 hLL, jn_in i5 hLL, jn_in i6 hLL, jn_cl i0 hLL, jn_cl i1 hLL, jn_cl i2 hLL, jn_cl i3 hLL, jn_cl i4 hLL, jn_cl i5 hLL, jn_cl i6 hLL, wA_na hne', hmany]
  refine hQ _ rfl rfl rfl rfl rfl rfl (fun c hc => ?_) (fun x hx => ?_) (fun a h1 h2 => ?_) ?_ (fun u hu => ?_)
  · rw [wA_na hne]
    have hc' : c = 0 ∨ c = 1 ∨ c = 2 ∨ c = 3 ∨ c = 4 ∨ c = 5 ∨ c = 6 := by omega
    rcases hc' with rfl | rfl | rfl | rfl | rfl | rfl | rfl
    · rw [wA_ne (by omega), wA_ne (by omega), wA_ne (by omega), wA_ne (by omega), wA_ne (by omega), wA_ne (by omega)]; exact wA_s
    · rw [wA_ne (by omega), wA_ne (by omega), wA_ne (by omega), wA_ne (by omega), wA_ne (by omega), wA_s]
    · rw [wA_ne (by omega), wA_ne (by omega), wA_ne (by omega), wA_ne (by omega), wA_s]
    · rw [wA_ne (by omega), wA_ne (by omega), wA_ne (by omega), wA_s]
    · rw [wA_ne (by omega), wA_ne (by omega), wA_s]
    · rw [wA_ne (by omega), wA_s]
    · rw [wA_s]
  · rw [wA_na hne, wA_ne (by omega), wA_ne (by omega), wA_ne (by omega), wA_ne (by omega), wA_ne (by omega), wA_ne (by omega), wA_ne (by omega)]
  · rw [wA_na h2, wA_na h1, wA_na h1, wA_na h1, wA_na h1, wA_na h1, wA_na h1, wA_na h1]
  · exact wA_s
  · rw [wA_ne hu, wA_na hne', wA_na hne', wA_na hne', wA_na hne', wA_na hne', wA_na hne', wA_na hne']
theorem k_goE (hE : RE h tg m ma W po w0 qq El rw) (hv : v < W) (hlen : (El v).length ≤ 511) (hQ : ∀ h', RE h' tg m ma W po w0 qq El rw → zI h' 582 m = nI v → RM h' m ma (sv po w0 qq El v) → AG (fun t => t ≠ 56) h h' tg tg → Q none h') : jd_WM g (d + 5) 81 [.ref m, .int (nI v)] h Q := by
  have hE' := hE
  obtain ⟨q1, q2, q3, q4, q5, q6⟩ := hE
  have hv6 : v < 6 := by omega
  obtain ⟨a1, a2, a3, a4, a5, a6, a7⟩ := q4 v hv6
  obtain ⟨b1, b2, b3, b4, b5⟩ := q5 v hv
  refine k_go q1 hv6 b4.1 b4.2.1 b4.2.2 b5 hlen b3 b1 b2 a6 a1 (fun k h1 h2 => a2 k (by unfold us; omega)) a5 (fun hat => ?_) (fun h' hR hF hat had => ?_)
  · refine hQ h hE' hat ?_ AG_r
    rcases q6 with z | ⟨v', hv', z, hR, -⟩
    · rw [hat] at z; exact absurd z (jm1 (by omega))
    · rw [hat] at z
      have := (nI_eq (by omega) (by omega)).mp z
      subst this
      exact hR
  · exact hQ h' (RE_go hE' hF hv hat had hR) hat hR (MG_AG q1 q2 hF)
set_option maxRecDepth 100000 in
theorem k_event (hE : RE h tg m ma W po w0 qq El rw) (hv : v < W) (hlen : (El v).length ≤ 511)
    (hQ0 : ∀ h', vDo (nI (qq v)) (po v) (sv po w0 qq El v) e = none → RE h' tg m ma W po w0 qq El rw → AG (fun t => t ≠ 56) h h' tg tg → Q (some (.int (-1))) h')
    (hQ1 : ∀ r s' h' tg' rw', vDo (nI (qq v)) (po v) (sv po w0 qq El v) e = some (r, s') → RE h' tg' m ma W po w0 qq (u1 El v (e :: El v)) rw' → AG (fun t => t ≠ 56) h h' tg tg' → Q (some (.int r)) h') :
    jd_WM g (d + 6) 83 [.ref m, .int (nI v), .int (e 0), .int (e 1), .int (e 2), .int (e 3), .int (e 4), .int (e 5), .int (e 6)] h Q := by
  refine ⟨Nat.le_of_ble_eq_true rfl, ?_⟩; show jd_w g (d + 5) 83 Q 0 [some (.ref m), some (.int (nI v)), some (.int (e 0)), some (.int (e 1)), some (.int (e 2)), some (.int (e 3)), some (.int (e 4)), some (.int (e 5)), some (.int (e 6)), none, none, none] [] h 1 7168
  simp only [e83_0, e83_1, e83_2, o_iload, o_lload, o_aload, o_istore, o_lstore, o_astore, o_iinc, o_ipush, o_lpush, o_null, o_ibin, o_ineg, o_lbin, o_ldv, o_lneg, o_lcmp, o_i2l, o_l2i, o_dup, o_pop, o_dupx, o_dup2, o_ic, o_iz, o_nul, o_acmp, o_tsw, o_gI, o_gR, o_pI, o_pZ, o_pR, o_iald, o_bald, o_lald, o_aald, o_iast, o_bast, o_last, o_aast, o_alen, o_newa, o_new, o_mna, o_cast, o_calls, o_callv, o_calli, o_oinit, o_getC, o_refp, o_cpi, o_cpo, o_mmax, o_mmin, o_lmin, o_iret, o_zret, o_lret, o_aret, o_vret, jd_lo, jd_la, jd_nl, jd_pop, List.length_cons, List.length_nil, List.set_cons_zero, List.set_cons_succ, List.getElem?_cons_zero, List.getElem?_cons_succ, List.replicate_succ, List.replicate_zero, List.cons_append, List.nil_append, List.append_nil, Value.category, Option.toList, va_rf, true_implies, false_implies, false_and, and_false, and_true, true_and, and_self, true_or, or_true, false_or, or_false, not_true_eq_false, not_false_eq_true, forall_const, implies_true, if_true, if_false, reduceCtorEq, reduceIte, Nat.reduceAdd, Nat.reduceMul, Nat.reduceSub, Nat.reduceDiv, Nat.reduceMod, Nat.reduceEqDiff, Nat.reduceLeDiff, Nat.reduceLT, Nat.zero_le, Nat.lt_add_one, Nat.le_refl, Nat.sub_zero, Nat.zero_lt_succ, ge_iff_le, ji_m2, ji_m1, ji_0, ji_1, ji_2, ji_3, ji_4, ji_5, ji_6, ji_7, ji_8, ji_10, ji_12, ji_29, ji_30, ji_31, ji_40, ji_60, ji_70, ji_80, ji_81, ji_360, ji_512, ji_972, ji_1000000, ji_2147483639, jl_m1, jl_0, jl_1, MS_K hE.1]
  refine k_goE hE hv hlen (fun h1 hE1 hat1 hR1 hG1 => ?_)
  have hE1' := hE1
  obtain ⟨q1, q2, q3, q4, q5, q6⟩ := hE1
  have hv6 : v < 6 := by omega
  obtain ⟨a1, a2, a3, a4, a5, a6, a7⟩ := q4 v hv6
  obtain ⟨b1, b2, b3, b4, b5⟩ := q5 v hv
  have hIJ := IJ_rep rfl b4.1 b4.2.1 b4.2.2 _ b5
  obtain ⟨n, lo, na, p, hI, hJ⟩ := IJ_rep rfl b4.1 b4.2.1 b4.2.2 _ b5
  simp only [e83_5, e83_6, e83_7, e83_8, e83_10, e83_12, e83_14, e83_16, e83_18, o_iload, o_lload, o_aload, o_istore, o_lstore, o_astore, o_iinc, o_ipush, o_lpush, o_null, o_ibin, o_ineg, o_lbin, o_ldv, o_lneg, o_lcmp, o_i2l, o_l2i, o_dup, o_pop, o_dupx, o_dup2, o_ic, o_iz, o_nul, o_acmp, o_tsw, o_gI, o_gR, o_pI, o_pZ, o_pR, o_iald, o_bald, o_lald, o_aald, o_iast, o_bast, o_last, o_aast, o_alen, o_newa, o_new, o_mna, o_cast, o_calls, o_callv, o_calli, o_oinit, o_getC, o_refp, o_cpi, o_cpo, o_mmax, o_mmin, o_lmin, o_iret, o_zret, o_lret, o_aret, o_vret, jd_lo, jd_la, jd_nl, jd_pop, List.length_cons, List.length_nil, List.set_cons_zero, List.set_cons_succ, List.getElem?_cons_zero, List.getElem?_cons_succ, List.replicate_succ, List.replicate_zero, List.cons_append, List.nil_append, List.append_nil, Value.category, Option.toList, va_rf, true_implies, false_implies, false_and, and_false, and_true, true_and, and_self, true_or, or_true, false_or, or_false, not_true_eq_false, not_false_eq_true, forall_const, implies_true, if_true, if_false, reduceCtorEq, reduceIte, Nat.reduceAdd, Nat.reduceMul, Nat.reduceSub, Nat.reduceDiv, Nat.reduceMod, Nat.reduceEqDiff, Nat.reduceLeDiff, Nat.reduceLT, Nat.zero_le, Nat.lt_add_one, Nat.le_refl, Nat.sub_zero, Nat.zero_lt_succ, ge_iff_le, ji_m2, ji_m1, ji_0, ji_1, ji_2, ji_3, ji_4, ji_5, ji_6, ji_7, ji_8, ji_10, ji_12, ji_29, ji_30, ji_31, ji_40, ji_60, ji_70, ji_80, ji_81, ji_360, ji_512, ji_972, ji_1000000, ji_2147483639, jl_m1, jl_0, jl_1, MS_K q1]
  refine k_does (d := d + 1) q1 hR1 hI hat1 hv6 b3 b1 (fun hz => ?_) (fun r s' h2 hz hR2 hF2 => ?_)
  · simp only [e83_21, e83_23, e83_25, e83_26, e83_29, e83_30, o_iload, o_lload, o_aload, o_istore, o_lstore, o_astore, o_iinc, o_ipush, o_lpush, o_null, o_ibin, o_ineg, o_lbin, o_ldv, o_lneg, o_lcmp, o_i2l, o_l2i, o_dup, o_pop, o_dupx, o_dup2, o_ic, o_iz, o_nul, o_acmp, o_tsw, o_gI, o_gR, o_pI, o_pZ, o_pR, o_iald, o_bald, o_lald, o_aald, o_iast, o_bast, o_last, o_aast, o_alen, o_newa, o_new, o_mna, o_cast, o_calls, o_callv, o_calli, o_oinit, o_getC, o_refp, o_cpi, o_cpo, o_mmax, o_mmin, o_lmin, o_iret, o_zret, o_lret, o_aret, o_vret, jd_lo, jd_la, jd_nl, jd_pop, List.length_cons, List.length_nil, List.set_cons_zero, List.set_cons_succ, List.getElem?_cons_zero, List.getElem?_cons_succ, List.replicate_succ, List.replicate_zero, List.cons_append, List.nil_append, List.append_nil, Value.category, Option.toList, va_rf, true_implies, false_implies, false_and, and_false, and_true, true_and, and_self, true_or, or_true, false_or, or_false, not_true_eq_false, not_false_eq_true, forall_const, implies_true, if_true, if_false, reduceCtorEq, reduceIte, Nat.reduceAdd, Nat.reduceMul, Nat.reduceSub, Nat.reduceDiv, Nat.reduceMod, Nat.reduceEqDiff, Nat.reduceLeDiff, Nat.reduceLT, Nat.zero_le, Nat.lt_add_one, Nat.le_refl, Nat.sub_zero, Nat.zero_lt_succ, ge_iff_le, ji_m2, ji_m1, ji_0, ji_1, ji_2, ji_3, ji_4, ji_5, ji_6, ji_7, ji_8, ji_10, ji_12, ji_29, ji_30, ji_31, ji_40, ji_60, ji_70, ji_80, ji_81, ji_360, ji_512, ji_972, ji_1000000, ji_2147483639, jl_m1, jl_0, jl_1]
    exact hQ0 h1 hz hE1' hG1
  · have hr0 := vDo_pos hIJ rfl hz
    have hrne : ¬ r = -1 := fun z => by rw [z] at hr0; exact absurd hr0 (by decide)
    have hF := MG_F hF2
    have hM2 := MG_MS hF q1
    have hrs : rep (nI (qq v)) (po v) (w0 v) (e :: El v) = s' := rep_c hz
    have c1 : zO h2 (ma 0) v = some (rw v) := by rw [hF.2.2.2.2.1]; exact a1
    have c2 : zA h2 (ma 1) v = nI (El v).length := by rw [MG_ro hF q1 (by omega)]; exact a6
    have c3 : zK h2 (rw v) = 10 := by rw [hF.1]; exact a5.1
    have c4 : zL h2 (rw v) = zL h1 (rw v) := by rw [hF.2.2.1]
    have c5 : zA h2 (rw v) = zA h1 (rw v) := hF.2.2.2.2.2.2 (rw v) (fun k h1 h2 => a2 k (by unfold us; omega))
    have u0 : us 0 := by unfold us; omega
    have u1' : us 1 := by unfold us; omega
    obtain ⟨d1, d2, d3, d4, d5⟩ := a5
    -- what stands in the end, whatever the row
    have fin : ∀ (h4 : jd_H) (tg' : Nat → Nat) (r' : Nat), AG (fun t => t ≠ 56) h1 h4 tg tg' → MS h4 m ma → (∀ f, zI h4 f m = zI (wI h2 616 m (-2)) f m) → (∀ k, us k → k ≠ 0 → k ≠ 1 → zA h4 (ma k) = zA h2 (ma k)) → (∀ a, (a = m ∨ (∃ k, us k ∧ a = ma k) ∨ ∃ u, u < 6 ∧ a = rw u) → tg' a = tg a) → tg' r' = 56 → (∀ k, us k → r' ≠ ma k) → (∀ u, u < 6 → u ≠ v → r' ≠ rw u) → zO h4 (ma 0) v = some r' → (∀ u, u ≠ v → zO h4 (ma 0) u = zO h2 (ma 0) u) → (∀ u, u < 6 → u ≠ v → zK h4 (rw u) = zK h2 (rw u) ∧ zL h4 (rw u) = zL h2 (rw u) ∧ zA h4 (rw u) = zA h2 (rw u)) → zK h4 r' = 10 → 7 * (El v).length + 7 ≤ zL h4 r' → 70 ≤ zL h4 r' → zL h4 r' ≤ 7168 → (∀ c, c < 7 → zA h4 r' (7 * (El v).length + c) = e c) → (∀ x, x < 7 * (El v).length → zA h4 r' x = zA h2 (rw v) x) → zA h4 (ma 1) v = nI ((El v).length + 1) → (∀ u, u ≠ v → zA h4 (ma 1) u = zA h2 (ma 1) u) → Q (some (.int r)) h4 := by
      intro h4 tg' r' hG x1 x2 x3 x4 x5 x6 x7 x8 x9 x10 x11 x12 x13 x14 x15 x16 x17 x18
      refine hQ1 r s' h4 tg' (fun u => if u = v then r' else rw u) hz ⟨x1, ⟨(x4 m (Or.inl rfl)).trans q2.1, fun k hk => ⟨(x4 _ (Or.inr (Or.inl ⟨k, hk, rfl⟩))).trans (q2.2 k hk).1, (q2.2 k hk).2⟩⟩, ⟨q3.1, ?_⟩, fun u hu => ?_, fun u hu => ?_, Or.inr ⟨v, hv, ?_, ?_, Or.inl ?_⟩⟩ (AG_t hG1 hG)
      · rw [x2, wI_ne (by decide), hF2.2.2.2.2.2.1 581 m (fun _ => by omega)]; exact q3.2
      · by_cases huv : u = v
        · subst huv
          simp only [if_true, u1]
          refine ⟨x8, x6, fun w hw z => ?_, x5, ⟨x11, x13, ?_, x14, fun k c hk hc => ?_⟩, x17, fun z => by omega⟩
          · by_cases hwv : w = u
            · exact hwv
            · rw [if_neg hwv] at z; exact absurd z.symm (x7 w hw hwv)
          · show 7 * ((El u).length + 1) ≤ _
            omega
          · by_cases hkl : k = (El u).length
            · subst hkl
              rw [evk_n]; exact x15 c hc
            · have hk' : k < (El u).length + 1 := hk
              rw [evk_o hkl, x16 _ (by omega), c5]
              exact d5 k c (by omega) hc
        · obtain ⟨f1, f2, f3, f4, f5, f6, f7⟩ := q4 u hu
          simp only [if_neg huv, u1]
          obtain ⟨y1, y2, y3⟩ := x10 u hu huv
          refine ⟨?_, f2, fun w hw z => ?_, (x4 _ (Or.inr (Or.inr ⟨u, hu, rfl⟩))).trans f4, ?_, ?_, f7⟩
          · rw [x9 u huv, hF.2.2.2.2.1]; exact f1
          · by_cases hwv : w = v
            · rw [if_pos hwv] at z; exact absurd z (x7 u hu huv)
            · rw [if_neg hwv] at z; exact f3 w hw z
          · unfold ER
            rw [y1, y2, y3, hF.1, hF.2.2.1, hF.2.2.2.2.2.2 (rw u) (fun k h1 h2 => f2 k (by unfold us; omega))]
            exact f5
          · rw [x18 u huv, MG_ro hF q1 (by omega)]; exact f6
      · have := q5 u hu
        rw [x3 2 (by unfold us; omega) (by omega) (by omega), x3 3 (by unfold us; omega) (by omega) (by omega), x3 4 (by unfold us; omega) (by omega) (by omega), MG_ro hF q1 (by omega), MG_ro hF q1 (by omega), MG_ro hF q1 (by omega)]
        refine ⟨this.1, this.2.1, this.2.2.1, this.2.2.2.1, ?_⟩
        by_cases huv : u = v
        · subst huv
          simp only [if_true, u1]
          exact ⟨b5, _, hz⟩
        · simp only [if_neg huv, u1]
          exact this.2.2.2.2
      · rw [x2, wI_ne (by decide), hF2.2.2.2.2.2.1 582 m (fun _ => by omega)]; exact hat1
      · simp only [u1, if_true]
        rw [hrs]
        refine ⟨fun k hk => ?_, fun k i hk hi => ?_, fun k a i hk ha hi => ?_, fun a o ha ho => ?_⟩
        · rw [x2, wI_ne (by omega)]; exact hR2.1 k hk
        · rw [x3 _ (by unfold us; omega) (by omega) (by omega)]; exact hR2.2.1 k i hk hi
        · rw [x3 _ (by unfold us; omega) (by omega) (by omega)]; exact hR2.2.2.1 k a i hk ha hi
        · rw [x3 _ (by unfold us; omega) (by omega) (by omega)]; exact hR2.2.2.2 a o ha ho
      · rw [x2, wI_s]
    have hi : nI (7 * (El v).length + 7) ≤ nI (zL h2 (rw v)) ↔ 7 * (El v).length + 7 ≤ zL h2 (rw v) := nI_leI (by omega) (by omega)
    have hGw : AG (fun t => t ≠ 56) h1 (wI h2 616 m (-2)) tg tg := AG_t (MG_AG q1 q2 hF) (AG_wI (fun z => z q2.1))
    have hMw : MS (wI h2 616 m (-2)) m ma := MG_MS (MG_I MG_r (Or.inr rfl)) hM2
    by_cases hg : 7 * (El v).length + 7 ≤ zL h2 (rw v)
    · have hgI := hi.mpr hg
      simp only [e83_21, e83_23, e83_25, e83_26, e83_29, e83_30, e83_31, e83_32, e83_34, e83_37, e83_39, e83_40, e83_43, e83_44, e83_45, e83_46, e83_48, e83_50, e83_52, e83_53, e83_54, e83_57, e83_58, e83_59, e83_60, o_iload, o_lload, o_aload, o_istore, o_lstore, o_astore, o_iinc, o_ipush, o_lpush, o_null, o_ibin, o_ineg, o_lbin, o_ldv, o_lneg, o_lcmp, o_i2l, o_l2i, o_dup, o_pop, o_dupx, o_dup2, o_ic, o_iz, o_nul, o_acmp, o_tsw, o_gI, o_gR, o_pI, o_pZ, o_pR, o_iald, o_bald, o_lald, o_aald, o_iast, o_bast, o_last, o_aast, o_alen, o_newa, o_new, o_mna, o_cast, o_calls, o_callv, o_calli, o_oinit, o_getC, o_refp, o_cpi, o_cpo, o_mmax, o_mmin, o_lmin, o_iret, o_zret, o_lret, o_aret, o_vret, jd_lo, jd_la, jd_nl, jd_pop, List.length_cons, List.length_nil, List.set_cons_zero, List.set_cons_succ, List.getElem?_cons_zero, List.getElem?_cons_succ, List.replicate_succ, List.replicate_zero, List.cons_append, List.nil_append, List.append_nil, Value.category, Option.toList, va_rf, true_implies, false_implies, false_and, and_false, and_true, true_and, and_self, true_or, or_true, false_or, or_false, not_true_eq_false, not_false_eq_true, forall_const, implies_true, if_true, if_false, reduceCtorEq, reduceIte, Nat.reduceAdd, Nat.reduceMul, Nat.reduceSub, Nat.reduceDiv, Nat.reduceMod, Nat.reduceEqDiff, Nat.reduceLeDiff, Nat.reduceLT, Nat.zero_le, Nat.lt_add_one, Nat.le_refl, Nat.sub_zero, Nat.zero_lt_succ, ge_iff_le, ji_m2, ji_m1, ji_0, ji_1, ji_2, ji_3, ji_4, ji_5, ji_6, ji_7, ji_8, ji_10, ji_12, ji_29, ji_30, ji_31, ji_40, ji_60, ji_70, ji_80, ji_81, ji_360, ji_512, ji_972, ji_1000000, ji_2147483639, jl_m1, jl_0, jl_1, rw_KI, rw_II, rw_RI, rw_LI, rw_AI, rw_JI, rw_OI, rw_KR, rw_IR, rw_RR, rw_LR, rw_AR, rw_JR, rw_OR, rw_KA, rw_IA, rw_RA, rw_LA, rw_AA, rw_JA, rw_OA, rw_KJ, rw_IJ, rw_RJ, rw_LJ, rw_AJ, rw_JJ, rw_OJ, rw_KO, rw_IO, rw_RO, rw_LO, rw_AO, rw_JO, rw_OO, rw_KAr, rw_IAr, rw_RAr, rw_LAr, rw_AAr, rw_JAr, rw_OAr, rw_KOr, rw_IOr, rw_ROr, rw_LOr, rw_AOr, rw_JOr, rw_OOr, rw_KN, rw_IN, rw_RN, rw_LN, rw_AN, rw_JN, rw_ON, rw_KY, rw_IY, rw_RY, rw_LY, rw_AY, rw_JY, rw_OY, MS_K hM2, MS_inj hM2, MS_R0 hM2, MS_K0 hM2, MS_L0 hM2, MS_R1 hM2, MS_K1 hM2, MS_L1 hM2, MS_R2 hM2, MS_K2 hM2, MS_L2 hM2, MS_R3 hM2, MS_K3 hM2, MS_L3 hM2, MS_R4 hM2, MS_K4 hM2, MS_L4 hM2, MS_R14 hM2, MS_K14 hM2, MS_L14 hM2, MS_R15 hM2, MS_K15 hM2, MS_L15 hM2, MS_R16 hM2, MS_K16 hM2, MS_L16 hM2, MS_R17 hM2, MS_K17 hM2, MS_L17 hM2, MS_R18 hM2, MS_K18 hM2, MS_L18 hM2, MS_R19 hM2, MS_K19 hM2, MS_L19 hM2, MS_R20 hM2, MS_K20 hM2, MS_L20 hM2, MS_R21 hM2, MS_K21 hM2, MS_L21 hM2, MS_R22 hM2, MS_K22 hM2, MS_L22 hM2, MS_R23 hM2, MS_K23 hM2, MS_L23 hM2, MS_R24 hM2, MS_K24 hM2, MS_L24 hM2, MS_R25 hM2, MS_K25 hM2, MS_L25 hM2, MS_R26 hM2, MS_K26 hM2, MS_L26 hM2, MS_R27 hM2, MS_K27 hM2, MS_L27 hM2, MS_R28 hM2, MS_K28 hM2, MS_L28 hM2, MS_R29 hM2, MS_K29 hM2, MS_L29 hM2, MS_R30 hM2, MS_K30 hM2, MS_L30 hM2, MS_R31 hM2, MS_K31 hM2, MS_L31 hM2, MS_R32 hM2, MS_K32 hM2, MS_L32 hM2, MS_R33 hM2, MS_K33 hM2, MS_L33 hM2, MS_R34 hM2, MS_K34 hM2, MS_L34 hM2, MS_R35 hM2, MS_K35 hM2, MS_L35 hM2, MS_R36 hM2, MS_K36 hM2, MS_L36 hM2, MS_R37 hM2, MS_K37 hM2, MS_L37 hM2, MS_R38 hM2, MS_K38 hM2, MS_L38 hM2, MS_R41 hM2, MS_K41 hM2, MS_L41 hM2, hrne, jn_in hv6 (by decide), jn_cl hv6 (by decide), c1, c2, c3, j7, jmul, nI_add, hgI]
      refine k_evT (e := e) (r := rw v) (R := 0) hMw hv6 hlen c2 c1 c3 hg (by show zL h2 (rw v) ≤ 7168; omega) (a2 1 u1') (fun h4 k1 k2 k3 k4 k5 k6 k7 k8 k9 k10 k11 => ?_)
      refine fin h4 tg (rw v) (AG_t hGw (fun a ha => ⟨by rw [k1], by rw [k4], rfl, fun hp => ⟨fun f => by rw [k2], fun f => by rw [k3], k9 a (fun z => hp (by rw [z]; exact a4)) (fun z => hp (by rw [z]; exact (q2.2 1 u1').1)), by rw [k5], by rw [k6]⟩⟩)) (MS_cg hMw (by rw [k1]) (fun f => by rw [k3]) (fun k _ => ⟨by rw [k1], by rw [k4]⟩)) (fun f => by rw [k2]) (fun k hk hk0 hk1 => k9 _ (fun z => a2 k hk z.symm) (fun z => hk1 ((MS_inj hM2 k 1).mp z))) (fun _ _ => rfl) a4 a2 (fun u hu huv z => huv ((q4 v hv6).2.2.1 u hu z.symm)) (by rw [k6]; exact c1) (fun u _ => by rw [k6]; rfl) (fun u hu huv => ⟨by rw [k1]; rfl, by rw [k4]; rfl, k9 _ (fun z => huv ((q4 v hv6).2.2.1 u hu z)) ((q4 u hu).2.1 1 u1')⟩) (by rw [k1]; exact c3) (by rw [k4]; exact hg) (by rw [k4]; show 70 ≤ zL h2 (rw v); omega) (by rw [k4]; show zL h2 (rw v) ≤ 7168; omega) k7 k8 k10 k11
    · have hgI : ¬ nI (7 * (El v).length + 7) ≤ nI (zL h2 (rw v)) := fun z => hg (hi.mp z)
      have e2L : (2 : Int32) * nI (zL h2 (rw v)) = nI (2 * zL h2 (rw v)) := jmul 2 _
      have hcl2 : (nI (2 * zL h2 (rw v))).toNatClampNeg = 2 * zL h2 (rw v) := jn_cl (show 2 * zL h2 (rw v) < 7169 by omega) (by decide)
      have hcl7 : (nI (7 * (El v).length)).toNatClampNeg = 7 * (El v).length := jn_cl (show 7 * (El v).length < 7169 by omega) (by decide)
      simp only [e83_21, e83_23, e83_25, e83_26, e83_29, e83_30, e83_31, e83_32, e83_34, e83_37, e83_39, e83_40, e83_43, e83_44, e83_45, e83_46, e83_48, e83_50, e83_52, e83_53, e83_54, e83_57, e83_58, e83_59, e83_60, e83_63, e83_64, e83_65, e83_68, e83_69, e83_70, e83_71, e83_72, o_iload, o_lload, o_aload, o_istore, o_lstore, o_astore, o_iinc, o_ipush, o_lpush, o_null, o_ibin, o_ineg, o_lbin, o_ldv, o_lneg, o_lcmp, o_i2l, o_l2i, o_dup, o_pop, o_dupx, o_dup2, o_ic, o_iz, o_nul, o_acmp, o_tsw, o_gI, o_gR, o_pI, o_pZ, o_pR, o_iald, o_bald, o_lald, o_aald, o_iast, o_bast, o_last, o_aast, o_alen, o_newa, o_new, o_mna, o_cast, o_calls, o_callv, o_calli, o_oinit, o_getC, o_refp, o_cpi, o_cpo, o_mmax, o_mmin, o_lmin, o_iret, o_zret, o_lret, o_aret, o_vret, jd_lo, jd_la, jd_nl, jd_pop, List.length_cons, List.length_nil, List.set_cons_zero, List.set_cons_succ, List.getElem?_cons_zero, List.getElem?_cons_succ, List.replicate_succ, List.replicate_zero, List.cons_append, List.nil_append, List.append_nil, Value.category, Option.toList, va_rf, true_implies, false_implies, false_and, and_false, and_true, true_and, and_self, true_or, or_true, false_or, or_false, not_true_eq_false, not_false_eq_true, forall_const, implies_true, if_true, if_false, reduceCtorEq, reduceIte, Nat.reduceAdd, Nat.reduceMul, Nat.reduceSub, Nat.reduceDiv, Nat.reduceMod, Nat.reduceEqDiff, Nat.reduceLeDiff, Nat.reduceLT, Nat.zero_le, Nat.lt_add_one, Nat.le_refl, Nat.sub_zero, Nat.zero_lt_succ, ge_iff_le, ji_m2, ji_m1, ji_0, ji_1, ji_2, ji_3, ji_4, ji_5, ji_6, ji_7, ji_8, ji_10, ji_12, ji_29, ji_30, ji_31, ji_40, ji_60, ji_70, ji_80, ji_81, ji_360, ji_512, ji_972, ji_1000000, ji_2147483639, jl_m1, jl_0, jl_1, rw_KI, rw_II, rw_RI, rw_LI, rw_AI, rw_JI, rw_OI, rw_KR, rw_IR, rw_RR, rw_LR, rw_AR, rw_JR, rw_OR, rw_KA, rw_IA, rw_RA, rw_LA, rw_AA, rw_JA, rw_OA, rw_KJ, rw_IJ, rw_RJ, rw_LJ, rw_AJ, rw_JJ, rw_OJ, rw_KO, rw_IO, rw_RO, rw_LO, rw_AO, rw_JO, rw_OO, rw_KAr, rw_IAr, rw_RAr, rw_LAr, rw_AAr, rw_JAr, rw_OAr, rw_KOr, rw_IOr, rw_ROr, rw_LOr, rw_AOr, rw_JOr, rw_OOr, rw_KN, rw_IN, rw_RN, rw_LN, rw_AN, rw_JN, rw_ON, rw_KY, rw_IY, rw_RY, rw_LY, rw_AY, rw_JY, rw_OY, MS_K hM2, MS_inj hM2, MS_R0 hM2, MS_K0 hM2, MS_L0 hM2, MS_R1 hM2, MS_K1 hM2, MS_L1 hM2, MS_R2 hM2, MS_K2 hM2, MS_L2 hM2, MS_R3 hM2, MS_K3 hM2, MS_L3 hM2, MS_R4 hM2, MS_K4 hM2, MS_L4 hM2, MS_R14 hM2, MS_K14 hM2, MS_L14 hM2, MS_R15 hM2, MS_K15 hM2, MS_L15 hM2, MS_R16 hM2, MS_K16 hM2, MS_L16 hM2, MS_R17 hM2, MS_K17 hM2, MS_L17 hM2, MS_R18 hM2, MS_K18 hM2, MS_L18 hM2, MS_R19 hM2, MS_K19 hM2, MS_L19 hM2, MS_R20 hM2, MS_K20 hM2, MS_L20 hM2, MS_R21 hM2, MS_K21 hM2, MS_L21 hM2, MS_R22 hM2, MS_K22 hM2, MS_L22 hM2, MS_R23 hM2, MS_K23 hM2, MS_L23 hM2, MS_R24 hM2, MS_K24 hM2, MS_L24 hM2, MS_R25 hM2, MS_K25 hM2, MS_L25 hM2, MS_R26 hM2, MS_K26 hM2, MS_L26 hM2, MS_R27 hM2, MS_K27 hM2, MS_L27 hM2, MS_R28 hM2, MS_K28 hM2, MS_L28 hM2, MS_R29 hM2, MS_K29 hM2, MS_L29 hM2, MS_R30 hM2, MS_K30 hM2, MS_L30 hM2, MS_R31 hM2, MS_K31 hM2, MS_L31 hM2, MS_R32 hM2, MS_K32 hM2, MS_L32 hM2, MS_R33 hM2, MS_K33 hM2, MS_L33 hM2, MS_R34 hM2, MS_K34 hM2, MS_L34 hM2, MS_R35 hM2, MS_K35 hM2, MS_L35 hM2, MS_R36 hM2, MS_K36 hM2, MS_L36 hM2, MS_R37 hM2, MS_K37 hM2, MS_L37 hM2, MS_R38 hM2, MS_K38 hM2, MS_L38 hM2, MS_R41 hM2, MS_K41 hM2, MS_L41 hM2, hrne, jn_in hv6 (by decide), jn_cl hv6 (by decide), c1, c2, c3, j7, e2L, jmul, nI_add, hgI, hcl2]
      refine ⟨⟨nI_pos (by omega), by omega, by omega⟩, fun q hq => ?_⟩
      have hq1 : zK h1 q = 0 := by rw [← hq, hF.1]
      have nq : ∀ a, zK h2 a ≠ 0 → ¬ a = q := fun a ha z => ha (by rw [z]; exact hq)
      have nqm : ¬ m = q := nq m (by rw [MS_K hM2]; decide)
      have nq0 : ¬ ma 0 = q := nq _ (MS_nz hM2 u0)
      have nqr : ¬ rw v = q := nq _ (by rw [c3]; decide)
      have nq1 : ¬ ma 1 = q := nq _ (MS_nz hM2 u1')
      simp only [e83_74, e83_76, e83_77, e83_80, e83_81, e83_82, e83_83, e83_85, e83_86, e83_88, e83_91, e83_92, e83_95, e83_96, e83_98, o_iload, o_lload, o_aload, o_istore, o_lstore, o_astore, o_iinc, o_ipush, o_lpush, o_null, o_ibin, o_ineg, o_lbin, o_ldv, o_lneg, o_lcmp, o_i2l, o_l2i, o_dup, o_pop, o_dupx, o_dup2, o_ic, o_iz, o_nul, o_acmp, o_tsw, o_gI, o_gR, o_pI, o_pZ, o_pR, o_iald, o_bald, o_lald, o_aald, o_iast, o_bast, o_last, o_aast, o_alen, o_newa, o_new, o_mna, o_cast, o_calls, o_callv, o_calli, o_oinit, o_getC, o_refp, o_cpi, o_cpo, o_mmax, o_mmin, o_lmin, o_iret, o_zret, o_lret, o_aret, o_vret, jd_lo, jd_la, jd_nl, jd_pop, List.length_cons, List.length_nil, List.set_cons_zero, List.set_cons_succ, List.getElem?_cons_zero, List.getElem?_cons_succ, List.replicate_succ, List.replicate_zero, List.cons_append, List.nil_append, List.append_nil, Value.category, Option.toList, va_rf, true_implies, false_implies, false_and, and_false, and_true, true_and, and_self, true_or, or_true, false_or, or_false, not_true_eq_false, not_false_eq_true, forall_const, implies_true, if_true, if_false, reduceCtorEq, reduceIte, Nat.reduceAdd, Nat.reduceMul, Nat.reduceSub, Nat.reduceDiv, Nat.reduceMod, Nat.reduceEqDiff, Nat.reduceLeDiff, Nat.reduceLT, Nat.zero_le, Nat.lt_add_one, Nat.le_refl, Nat.sub_zero, Nat.zero_lt_succ, ge_iff_le, ji_m2, ji_m1, ji_0, ji_1, ji_2, ji_3, ji_4, ji_5, ji_6, ji_7, ji_8, ji_10, ji_12, ji_29, ji_30, ji_31, ji_40, ji_60, ji_70, ji_80, ji_81, ji_360, ji_512, ji_972, ji_1000000, ji_2147483639, jl_m1, jl_0, jl_1, rw_KI, rw_II, rw_RI, rw_LI, rw_AI, rw_JI, rw_OI, rw_KR, rw_IR, rw_RR, rw_LR, rw_AR, rw_JR, rw_OR, rw_KA, rw_IA, rw_RA, rw_LA, rw_AA, rw_JA, rw_OA, rw_KJ, rw_IJ, rw_RJ, rw_LJ, rw_AJ, rw_JJ, rw_OJ, rw_KO, rw_IO, rw_RO, rw_LO, rw_AO, rw_JO, rw_OO, rw_KAr, rw_IAr, rw_RAr, rw_LAr, rw_AAr, rw_JAr, rw_OAr, rw_KOr, rw_IOr, rw_ROr, rw_LOr, rw_AOr, rw_JOr, rw_OOr, rw_KN, rw_IN, rw_RN, rw_LN, rw_AN, rw_JN, rw_ON, rw_KY, rw_IY, rw_RY, rw_LY, rw_AY, rw_JY, rw_OY, MS_K hM2, MS_inj hM2, MS_R0 hM2, MS_K0 hM2, MS_L0 hM2, MS_R1 hM2, MS_K1 hM2, MS_L1 hM2, MS_R2 hM2, MS_K2 hM2, MS_L2 hM2, MS_R3 hM2, MS_K3 hM2, MS_L3 hM2, MS_R4 hM2, MS_K4 hM2, MS_L4 hM2, MS_R14 hM2, MS_K14 hM2, MS_L14 hM2, MS_R15 hM2, MS_K15 hM2, MS_L15 hM2, MS_R16 hM2, MS_K16 hM2, MS_L16 hM2, MS_R17 hM2, MS_K17 hM2, MS_L17 hM2, MS_R18 hM2, MS_K18 hM2, MS_L18 hM2, MS_R19 hM2, MS_K19 hM2, MS_L19 hM2, MS_R20 hM2, MS_K20 hM2, MS_L20 hM2, MS_R21 hM2, MS_K21 hM2, MS_L21 hM2, MS_R22 hM2, MS_K22 hM2, MS_L22 hM2, MS_R23 hM2, MS_K23 hM2, MS_L23 hM2, MS_R24 hM2, MS_K24 hM2, MS_L24 hM2, MS_R25 hM2, MS_K25 hM2, MS_L25 hM2, MS_R26 hM2, MS_K26 hM2, MS_L26 hM2, MS_R27 hM2, MS_K27 hM2, MS_L27 hM2, MS_R28 hM2, MS_K28 hM2, MS_L28 hM2, MS_R29 hM2, MS_K29 hM2, MS_L29 hM2, MS_R30 hM2, MS_K30 hM2, MS_L30 hM2, MS_R31 hM2, MS_K31 hM2, MS_L31 hM2, MS_R32 hM2, MS_K32 hM2, MS_L32 hM2, MS_R33 hM2, MS_K33 hM2, MS_L33 hM2, MS_R34 hM2, MS_K34 hM2, MS_L34 hM2, MS_R35 hM2, MS_K35 hM2, MS_L35 hM2, MS_R36 hM2, MS_K36 hM2, MS_L36 hM2, MS_R37 hM2, MS_K37 hM2, MS_L37 hM2, MS_R38 hM2, MS_K38 hM2, MS_L38 hM2, MS_R41 hM2, MS_K41 hM2, MS_L41 hM2, jn_in hv6 (by decide), jn_cl hv6 (by decide), c1, c3, nqm, nq0, nqr, hcl7, j0cl, Nat.zero_add]
      refine ⟨⟨by decide, by decide, nI_pos (by omega), by omega, by omega⟩, ?_⟩
      generalize hcp : va_cpy (zA (wY (wI h2 616 m (-2)) q 10 (2 * zL h2 (rw v))) (rw v)) (zA (wY (wI h2 616 m (-2)) q 10 (2 * zL h2 (rw v))) q) 0 0 (7 * (El v).length) = cp
      have hcp' : ∀ x, x < 7 * (El v).length → cp x = zA h2 (rw v) x := fun x hx => by
        rw [← hcp, pk_cpy_in (by omega) (by omega), rw_AY, if_neg nqr, Nat.zero_add, Nat.sub_zero]; rfl
      have hG3 : AG (fun t => t ≠ 56) h1 (wO (wAr (wY (wI h2 616 m (-2)) q 10 (2 * zL h2 (rw v))) q cp) (ma 0) v (some q)) tg (u1 tg q 56) := by
        refine AG_t hGw (AG_t (AG_wY (t := 56) hq) (AG_t (AG_wAr (fun z => z (if_pos rfl))) (AG_wO (fun z => z ?_))))
        show u1 tg q 56 (ma 0) = 56
        unfold u1
        rw [if_neg nq0]
        exact (q2.2 0 u0).1
      have hMq : MS (wO (wAr (wY (wI h2 616 m (-2)) q 10 (2 * zL h2 (rw v))) q cp) (ma 0) v (some q)) m ma := MS_cg hMw (by rw [rw_KO, rw_KAr, rw_KY, if_neg nqm]) (fun f => rfl) (fun k hk => ⟨by rw [rw_KO, rw_KAr, rw_KY, if_neg (nq _ (MS_nz hM2 hk))], by rw [rw_LO, rw_LAr, rw_LY, if_neg (nq _ (MS_nz hM2 hk))]⟩)
      have y1 : ∀ a, a ≠ q → zA (wO (wAr (wY (wI h2 616 m (-2)) q 10 (2 * zL h2 (rw v))) q cp) (ma 0) v (some q)) a = zA h2 a := fun a ha => by
        funext j
        rw [rw_AO, rw_AAr, if_neg ha, rw_AY, if_neg ha]; rfl
      have y2 : zA (wO (wAr (wY (wI h2 616 m (-2)) q 10 (2 * zL h2 (rw v))) q cp) (ma 0) v (some q)) q = cp := by
        funext j
        rw [rw_AO, rw_AAr, if_pos rfl]
      have y3 : ∀ a, a ≠ q → zK (wO (wAr (wY (wI h2 616 m (-2)) q 10 (2 * zL h2 (rw v))) q cp) (ma 0) v (some q)) a = zK h2 a := fun a ha => by
        rw [rw_KO, rw_KAr, rw_KY, if_neg ha]; rfl
      have y4 : ∀ a, a ≠ q → zL (wO (wAr (wY (wI h2 616 m (-2)) q 10 (2 * zL h2 (rw v))) q cp) (ma 0) v (some q)) a = zL h2 a := fun a ha => by
        rw [rw_LO, rw_LAr, rw_LY, if_neg ha]; rfl
      have y5 : zK (wO (wAr (wY (wI h2 616 m (-2)) q 10 (2 * zL h2 (rw v))) q cp) (ma 0) v (some q)) q = 10 := by
        rw [rw_KO, rw_KAr, rw_KY, if_pos rfl]
      have y6 : zL (wO (wAr (wY (wI h2 616 m (-2)) q 10 (2 * zL h2 (rw v))) q cp) (ma 0) v (some q)) q = 2 * zL h2 (rw v) := by
        rw [rw_LO, rw_LAr, rw_LY, if_pos rfl]
      have y7 : ∀ u, zO (wO (wAr (wY (wI h2 616 m (-2)) q 10 (2 * zL h2 (rw v))) q cp) (ma 0) v (some q)) (ma 0) u = if u = v then some q else zO h2 (ma 0) u := fun u => by
        rw [rw_OO]
        by_cases hu : u = v
        · rw [if_pos ⟨rfl, hu⟩, if_pos hu]
        · rw [if_neg (fun z => hu z.2), if_neg hu, rw_OAr, rw_OY, if_neg nq0]; rfl
      have y8 : zI (wO (wAr (wY (wI h2 616 m (-2)) q 10 (2 * zL h2 (rw v))) q cp) (ma 0) v (some q)) = zI (wI h2 616 m (-2)) := rfl
      generalize (wO (wAr (wY (wI h2 616 m (-2)) q 10 (2 * zL h2 (rw v))) q cp) (ma 0) v (some q)) = h3 at hG3 hMq y1 y2 y3 y4 y5 y6 y7 y8 ⊢
      have nqk : ∀ k, us k → q ≠ ma k := fun k hk z => nq _ (MS_nz hM2 hk) z.symm
      have nqrw : ∀ u, u < 6 → rw u ≠ q := fun u hu => nq _ (by rw [hF.1, (q4 u hu).2.2.2.2.1.1]; decide)
      have htq : ∀ a, a ≠ q → u1 tg q 56 a = tg a := fun a ha => if_neg ha
      refine k_evT (e := e) (r := q) (R := 0) hMq hv6 hlen (by rw [y1 _ nq1]; exact c2) (by rw [y7, if_pos rfl]) y5 (by rw [y6]; omega) (by rw [y6]; omega) (nqk 1 u1') (fun h4 k1 k2 k3 k4 k5 k6 k7 k8 k9 k10 k11 => ?_)
      refine fin h4 (u1 tg q 56) q (AG_t hG3 (fun a ha => ⟨by rw [k1], by rw [k4], rfl, fun hp => ⟨fun f => by rw [k2], fun f => by rw [k3], k9 a (fun z => hp (by rw [z]; exact if_pos rfl)) (fun z => hp (by rw [z, htq _ nq1]; exact (q2.2 1 u1').1)), by rw [k5], by rw [k6]⟩⟩)) (MS_cg hMq (by rw [k1]) (fun f => by rw [k3]) (fun k _ => ⟨by rw [k1], by rw [k4]⟩)) (fun f => by rw [k2, y8]) (fun k hk hk0 hk1 => (k9 _ (fun z => nqk k hk z.symm) (fun z => hk1 ((MS_inj hM2 k 1).mp z))).trans (y1 _ (fun z => nqk k hk z.symm))) (fun a ha => ?_) (if_pos rfl) nqk (fun u hu _ z => nqrw u hu z.symm) (by rw [k6, y7, if_pos rfl]) (fun u hu => by rw [k6, y7, if_neg hu]) (fun u hu huv => ⟨by rw [k1, y3 _ (nqrw u hu)], by rw [k4, y4 _ (nqrw u hu)], (k9 _ (nqrw u hu) ((q4 u hu).2.1 1 u1')).trans (y1 _ (nqrw u hu))⟩) (by rw [k1]; exact y5) (by rw [k4, y6]; omega) (by rw [k4, y6]; omega) (by rw [k4, y6]; omega) k7 (fun x hx => by rw [k8 x hx, y2]; exact hcp' x hx) k10 (fun u hu => by rw [k11 u hu, y1 _ nq1])
      refine htq a ?_
      rcases ha with rfl | ⟨k, hk, rfl⟩ | ⟨u, hu, rfl⟩
      · exact nqm
      · exact fun z => nqk k hk z.symm
      · exact nqrw u hu
end
