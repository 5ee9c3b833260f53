/-! the reference goes to a voyage: its events, again -/
def evk : List Ev → Nat → Ev
  | [], _ => fun _ => 0
  | e :: l, k => if k = l.length then e else evk l k
def lastn : List Ev → Nat → List Ev
  | [], _ => []
  | e :: l, k => if k = l.length + 1 then e :: l else lastn l k
theorem lastn_all (l : List Ev) : lastn l l.length = l := by
  cases l with
  | nil => rfl
  | cons e l => exact if_pos rfl
theorem lastn_0 (l : List Ev) : lastn l 0 = [] := by
  induction l with
  | nil => rfl
  | cons e l ih => exact (if_neg (by omega)).trans ih
theorem lastn_s {l : List Ev} {k : Nat} (hk : k < l.length) : lastn l (k + 1) = evk l k :: lastn l k := by
  induction l with
  | nil => exact absurd hk (Nat.not_lt_zero _)
  | cons e l ih =>
    by_cases h : k = l.length
    · subst h
      show (if _ then _ else _) = (if _ then _ else _) :: (if _ then _ else _)
      rw [if_pos rfl, if_pos rfl, if_neg (by omega), lastn_all]
    · have hk' : k < l.length := by
        have : k < l.length + 1 := hk
        omega
      show (if _ then _ else _) = (if _ then _ else _) :: (if _ then _ else _)
      rw [if_neg (by omega), if_neg h, if_neg (by omega)]
      exact ih hk'
section
variable {pp po w0 : Int32}
theorem lastn_ok {l : List Ev} (h : okl pp po w0 l) (k : Nat) : okl pp po w0 (lastn l k) := by
  induction l with
  | nil => exact h
  | cons e l ih =>
    show okl pp po w0 (if _ then _ else _)
    split
    · exact h
    · exact ih h.1
/-- h' is h but for the reference's copy of one voyage, and for which one it is -/
def MG (m : Nat) (ma : Nat → Nat) (h h' : jd_H) : Prop := zK h' = zK h ∧ zR h' = zR h ∧ zL h' = zL h ∧ zJ h' = zJ h ∧ zO h' = zO h ∧ (∀ f a, (a = m → f < 582 ∨ (589 < f ∧ f ≠ 616)) → zI h' f a = zI h f a) ∧ ∀ a, (∀ k, 14 ≤ k → k ≤ 26 → a ≠ ma k) → zA h' a = zA h a
end
section
variable {m : Nat} {ma : Nat → Nat} {h h1 h2 : jd_H}
theorem MG_r : MG m ma h h := ⟨rfl, rfl, rfl, rfl, rfl, fun _ _ _ => rfl, fun _ _ => rfl⟩
theorem MG_t (a : MG m ma h h1) (b : MG m ma h1 h2) : MG m ma h h2 := ⟨b.1.trans a.1, b.2.1.trans a.2.1, b.2.2.1.trans a.2.2.1, b.2.2.2.1.trans a.2.2.2.1, b.2.2.2.2.1.trans a.2.2.2.2.1, fun f x q => (b.2.2.2.2.2.1 f x q).trans (a.2.2.2.2.2.1 f x q), fun x q => (b.2.2.2.2.2.2 x q).trans (a.2.2.2.2.2.2 x q)⟩
theorem MG_F (a : MF m ma h h1) : MG m ma h h1 := ⟨a.1, a.2.1, a.2.2.1, a.2.2.2.1, a.2.2.2.2.1, fun f x q => a.2.2.2.2.2.1 f x (fun z => by have := q z; omega), a.2.2.2.2.2.2⟩
theorem MG_I {f : Nat} {x : Int32} (a : MG m ma h h1) (hf : (582 ≤ f ∧ f ≤ 589) ∨ f = 616) : MG m ma h (wI h1 f m x) := MG_t a ⟨rfl, rfl, rfl, rfl, rfl, fun f' b q => by
  rw [rw_II]
  split
  · next z => have := q z.2; omega
  · rfl, fun _ _ => rfl⟩
theorem MG_MS (a : MG m ma h h1) (q : MS h m ma) : MS h1 m ma := by
  unfold MS at q ⊢
  rw [a.1, a.2.1, a.2.2.1]
  exact q
/-- arrays that are no copy of a voyage -/
theorem MG_ro (a : MG m ma h h1) (q : MS h m ma) {k : Nat} (hk : k < 14 ∨ 26 < k) : zA h1 (ma k) = zA h (ma k) := a.2.2.2.2.2.2 _ (fun j h1j h2j z => by rw [MS_inj q] at z; omega)
/-- the row at r holds the events of l -/
def ER (h : jd_H) (r : Nat) (l : List Ev) : Prop := zK h r = 10 ∧ 70 ≤ zL h r ∧ 7 * l.length ≤ zL h r ∧ zL h r ≤ 7168 ∧ ∀ k c, k < l.length → c < 7 → zA h r (7 * k + c) = evk l k c
end
section
variable {g d m v r : Nat} {ma : Nat → Nat} {h : jd_H} {Q : jd_Q} {po w0 : Int32} {q : Nat} {l : List Ev}
theorem j7 : (7 : Int32) = nI 7 := rfl
theorem j2I : (2 : Int32) = nI 2 := rfl
theorem j3I : (3 : Int32) = nI 3 := rfl
theorem j4I : (4 : Int32) = nI 4 := rfl
theorem j5I : (5 : Int32) = nI 5 := rfl
theorem j6I : (6 : Int32) = nI 6 := rfl
set_option maxRecDepth 100000 in
theorem k_goL {x : Option Value} {y z : Option Value} (hv : v < 6) (hq2 : 2 ≤ q ∧ q ≤ 10) (hpo : 0 ≤ po ∧ po ≤ 29) (hw : 1 ≤ w0 ∧ w0 ≤ 1000000) (hok : okl (nI q) po w0 l) (hlen : l.length ≤ 511) :
    ∀ c k, k + c = l.length → ∀ (x y z : Option Value) (h : jd_H), MS h m ma → RM h m ma (rep (nI q) po w0 (lastn l k)) → zI h 582 m = nI v → zI h 616 m = -2 → zA h (ma 4) v = nI q → zA h (ma 2) v = po → zA h (ma 1) v = nI l.length → zO h (ma 0) v = some r → (∀ k, 14 ≤ k → k ≤ 26 → r ≠ ma k) → ER h r l →
    (∀ h', RM h' m ma (rep (nI q) po w0 l) → MG m ma h h' → zI h' 582 m = nI v → zI h' 616 m = -2 → Q none h') →
    jd_w g (d + 4) 81 Q 82 [some (.ref m), some (.int (nI v)), some (.int 0), some (.int (nI k)), x, y, z] [] h 0 0 := by
  intro c
  induction c with
  | zero =>
    intro k hk x y z h hM hR hat had hpp hpo' hmany hrow hrne hER hQ
    have hkl : k = l.length := by omega
    rw [e81_82]
    simp only [e81_82, e81_83, e81_84, e81_87, e81_88, e81_89, o_iload, o_lload, o_aload, o_istore, o_lstore, o_astore, o_iinc, o_ipush, o_lpush, o_null, o_ibin, o_ineg, o_lbin, o_ldv, o_lneg, o_lcmp, o_i2l, o_l2i, o_dup, o_pop, o_dupx, o_dup2, o_ic, o_iz, o_nul, o_acmp, o_tsw, o_gI, o_gR, o_pI, o_pZ, o_pR, o_iald, o_bald, o_lald, o_aald, o_iast, o_bast, o_last, o_aast, o_alen, o_newa, o_new, o_mna, o_cast, o_calls, o_callv, o_calli, o_oinit, o_getC, o_refp, o_cpi, o_cpo, o_mmax, o_mmin, o_lmin, o_iret, o_zret, o_lret, o_aret, o_vret, jd_lo, jd_la, jd_nl, jd_pop, List.length_cons, List.length_nil, List.set_cons_zero, List.set_cons_succ, List.getElem?_cons_zero, List.getElem?_cons_succ, List.replicate_succ, List.replicate_zero, List.cons_append, List.nil_append, List.append_nil, Value.category, Option.toList, va_rf, true_implies, false_implies, false_and, and_false, and_true, true_and, and_self, true_or, or_true, false_or, or_false, not_true_eq_false, not_false_eq_true, forall_const, implies_true, if_true, if_false, reduceCtorEq, reduceIte, Nat.reduceAdd, Nat.reduceMul, Nat.reduceSub, Nat.reduceDiv, Nat.reduceMod, Nat.reduceEqDiff, Nat.reduceLeDiff, Nat.reduceLT, Nat.zero_le, Nat.lt_add_one, Nat.le_refl, Nat.sub_zero, Nat.zero_lt_succ, ge_iff_le, ji_m2, ji_m1, ji_0, ji_1, ji_2, ji_3, ji_4, ji_5, ji_6, ji_7, ji_8, ji_10, ji_12, ji_29, ji_30, ji_31, ji_40, ji_60, ji_70, ji_80, ji_81, ji_360, ji_512, ji_972, ji_1000000, ji_2147483639, jl_m1, jl_0, jl_1, MS_K hM, MS_inj hM, MS_R0 hM, MS_K0 hM, MS_L0 hM, MS_R1 hM, MS_K1 hM, MS_L1 hM, MS_R2 hM, MS_K2 hM, MS_L2 hM, MS_R3 hM, MS_K3 hM, MS_L3 hM, MS_R4 hM, MS_K4 hM, MS_L4 hM, MS_R14 hM, MS_K14 hM, MS_L14 hM, MS_R15 hM, MS_K15 hM, MS_L15 hM, MS_R16 hM, MS_K16 hM, MS_L16 hM, MS_R17 hM, MS_K17 hM, MS_L17 hM, MS_R18 hM, MS_K18 hM, MS_L18 hM, MS_R19 hM, MS_K19 hM, MS_L19 hM, MS_R20 hM, MS_K20 hM, MS_L20 hM, MS_R21 hM, MS_K21 hM, MS_L21 hM, MS_R22 hM, MS_K22 hM, MS_L22 hM, MS_R23 hM, MS_K23 hM, MS_L23 hM, MS_R24 hM, MS_K24 hM, MS_L24 hM, MS_R25 hM, MS_K25 hM, MS_L25 hM, MS_R26 hM, MS_K26 hM, MS_L26 hM, MS_R27 hM, MS_K27 hM, MS_L27 hM, MS_R28 hM, MS_K28 hM, MS_L28 hM, MS_R29 hM, MS_K29 hM, MS_L29 hM, MS_R30 hM, MS_K30 hM, MS_L30 hM, MS_R31 hM, MS_K31 hM, MS_L31 hM, MS_R32 hM, MS_K32 hM, MS_L32 hM, MS_R33 hM, MS_K33 hM, MS_L33 hM, MS_R34 hM, MS_K34 hM, MS_L34 hM, MS_R35 hM, MS_K35 hM, MS_L35 hM, MS_R36 hM, MS_K36 hM, MS_L36 hM, MS_R37 hM, MS_K37 hM, MS_L37 hM, MS_R38 hM, MS_K38 hM, MS_L38 hM, MS_R41 hM, MS_K41 hM, MS_L41 hM, jn_in hv (by decide), jn_cl hv (by decide), hmany, hkl]
    rw [hkl, lastn_all] at hR
    simp only [e81_166, o_iload, o_lload, o_aload, o_istore, o_lstore, o_astore, o_iinc, o_ipush, o_lpush, o_null, o_ibin, o_ineg, o_lbin, o_ldv, o_lneg, o_lcmp, o_i2l, o_l2i, o_dup, o_pop, o_dupx, o_dup2, o_ic, o_iz, o_nul, o_acmp, o_tsw, o_gI, o_gR, o_pI, o_pZ, o_pR, o_iald, o_bald, o_lald, o_aald, o_iast, o_bast, o_last, o_aast, o_alen, o_newa, o_new, o_mna, o_cast, o_calls, o_callv, o_calli, o_oinit, o_getC, o_refp, o_cpi, o_cpo, o_mmax, o_mmin, o_lmin, o_iret, o_zret, o_lret, o_aret, o_vret, jd_lo, jd_la, jd_nl, jd_pop, List.length_cons, List.length_nil, List.set_cons_zero, List.set_cons_succ, List.getElem?_cons_zero, List.getElem?_cons_succ, List.replicate_succ, List.replicate_zero, List.cons_append, List.nil_append, List.append_nil, Value.category, Option.toList, va_rf, true_implies, false_implies, false_and, and_false, and_true, true_and, and_self, true_or, or_true, false_or, or_false, not_true_eq_false, not_false_eq_true, forall_const, implies_true, if_true, if_false, reduceCtorEq, reduceIte, Nat.reduceAdd, Nat.reduceMul, Nat.reduceSub, Nat.reduceDiv, Nat.reduceMod, Nat.reduceEqDiff, Nat.reduceLeDiff, Nat.reduceLT, Nat.zero_le, Nat.lt_add_one, Nat.le_refl, Nat.sub_zero, Nat.zero_lt_succ, ge_iff_le, ji_m2, ji_m1, ji_0, ji_1, ji_2, ji_3, ji_4, ji_5, ji_6, ji_7, ji_8, ji_10, ji_12, ji_29, ji_30, ji_31, ji_40, ji_60, ji_70, ji_80, ji_81, ji_360, ji_512, ji_972, ji_1000000, ji_2147483639, jl_m1, jl_0, jl_1]
    refine ⟨fun _ => hQ h hR MG_r hat had, fun z => absurd (Int32.le_refl _) z⟩
  | succ c ih =>
    intro k hk x y z h hM hR hat had hpp hpo' hmany hrow hrne hER hQ
    have hkl : k < l.length := by omega
    rw [e81_82]
    have i0 : 7 * k < zL h r := by have := hER.2.2.1; omega
    have i1 : 7 * k + 1 < zL h r := by have := hER.2.2.1; omega
    have i2 : 7 * k + 2 < zL h r := by have := hER.2.2.1; omega
    have i3 : 7 * k + 3 < zL h r := by have := hER.2.2.1; omega
    have i4 : 7 * k + 4 < zL h r := by have := hER.2.2.1; omega
    have i5 : 7 * k + 5 < zL h r := by have := hER.2.2.1; omega
    have i6 : 7 * k + 6 < zL h r := by have := hER.2.2.1; omega
    have hL : zL h r < 2147483648 := by have := hER.2.2.2.1; omega
    have hnle : ¬ nI l.length ≤ nI k := nI_ge hkl (by omega)
    simp only [e81_83, e81_84, e81_87, e81_88, e81_89, e81_92, e81_93, e81_96, e81_97, e81_98, e81_100, e81_102, e81_103, e81_104, e81_106, e81_107, e81_109, e81_111, e81_112, e81_114, e81_116, e81_117, e81_118, e81_119, e81_121, e81_123, e81_124, e81_125, e81_126, e81_128, e81_130, e81_131, e81_132, e81_133, e81_135, e81_137, e81_138, e81_139, e81_140, e81_142, e81_144, e81_145, e81_146, e81_147, e81_149, e81_151, e81_153, e81_154, o_iload, o_lload, o_aload, o_istore, o_lstore, o_astore, o_iinc, o_ipush, o_lpush, o_null, o_ibin, o_ineg, o_lbin, o_ldv, o_lneg, o_lcmp, o_i2l, o_l2i, o_dup, o_pop, o_dupx, o_dup2, o_ic, o_iz, o_nul, o_acmp, o_tsw, o_gI, o_gR, o_pI, o_pZ, o_pR, o_iald, o_bald, o_lald, o_aald, o_iast, o_bast, o_last, o_aast, o_alen, o_newa, o_new, o_mna, o_cast, o_calls, o_callv, o_calli, o_oinit, o_getC, o_refp, o_cpi, o_cpo, o_mmax, o_mmin, o_lmin, o_iret, o_zret, o_lret, o_aret, o_vret, jd_lo, jd_la, jd_nl, jd_pop, List.length_cons, List.length_nil, List.set_cons_zero, List.set_cons_succ, List.getElem?_cons_zero, List.getElem?_cons_succ, List.replicate_succ, List.replicate_zero, List.cons_append, List.nil_append, List.append_nil, Value.category, Option.toList, va_rf, true_implies, false_implies, false_and, and_false, and_true, true_and, and_self, true_or, or_true, false_or, or_false, not_true_eq_false, not_false_eq_true, forall_const, implies_true, if_true, if_false, reduceCtorEq, reduceIte, Nat.reduceAdd, Nat.reduceMul, Nat.reduceSub, Nat.reduceDiv, Nat.reduceMod, Nat.reduceEqDiff, Nat.reduceLeDiff, Nat.reduceLT, Nat.zero_le, Nat.lt_add_one, Nat.le_refl, Nat.sub_zero, Nat.zero_lt_succ, ge_iff_le, ji_m2, ji_m1, ji_0, ji_1, ji_2, ji_3, ji_4, ji_5, ji_6, ji_7, ji_8, ji_10, ji_12, ji_29, ji_30, ji_31, ji_40, ji_60, ji_70, ji_80, ji_81, ji_360, ji_512, ji_972, ji_1000000, ji_2147483639, jl_m1, jl_0, jl_1, MS_K hM, MS_inj hM, MS_R0 hM, MS_K0 hM, MS_L0 hM, MS_R1 hM, MS_K1 hM, MS_L1 hM, MS_R2 hM, MS_K2 hM, MS_L2 hM, MS_R3 hM, MS_K3 hM, MS_L3 hM, MS_R4 hM, MS_K4 hM, MS_L4 hM, MS_R14 hM, MS_K14 hM, MS_L14 hM, MS_R15 hM, MS_K15 hM, MS_L15 hM, MS_R16 hM, MS_K16 hM, MS_L16 hM, MS_R17 hM, MS_K17 hM, MS_L17 hM, MS_R18 hM, MS_K18 hM, MS_L18 hM, MS_R19 hM, MS_K19 hM, MS_L19 hM, MS_R20 hM, MS_K20 hM, MS_L20 hM, MS_R21 hM, MS_K21 hM, MS_L21 hM, MS_R22 hM, MS_K22 hM, MS_L22 hM, MS_R23 hM, MS_K23 hM, MS_L23 hM, MS_R24 hM, MS_K24 hM, MS_L24 hM, MS_R25 hM, MS_K25 hM, MS_L25 hM, MS_R26 hM, MS_K26 hM, MS_L26 hM, MS_R27 hM, MS_K27 hM, MS_L27 hM, MS_R28 hM, MS_K28 hM, MS_L28 hM, MS_R29 hM, MS_K29 hM, MS_L29 hM, MS_R30 hM, MS_K30 hM, MS_L30 hM, MS_R31 hM, MS_K31 hM, MS_L31 hM, MS_R32 hM, MS_K32 hM, MS_L32 hM, MS_R33 hM, MS_K33 hM, MS_L33 hM, MS_R34 hM, MS_K34 hM, MS_L34 hM, MS_R35 hM, MS_K35 hM, MS_L35 hM, MS_R36 hM, MS_K36 hM, MS_L36 hM, MS_R37 hM, MS_K37 hM, MS_L37 hM, MS_R38 hM, MS_K38 hM, MS_L38 hM, MS_R41 hM, MS_K41 hM, MS_L41 hM, jn_in hv (by decide), jn_cl hv (by decide), hmany, hrow, hER.1, hnle, j7, j1I, j2I, j3I, j4I, j5I, j6I, jmul, nI_add, jn_in i0 hL, jn_in i1 hL, jn_in i2 hL, jn_in i3 hL, jn_in i4 hL, jn_in i5 hL, jn_in i6 hL, jn_cl i0 hL, jn_cl i1 hL, jn_cl i2 hL, jn_cl i3 hL, jn_cl i4 hL, jn_cl i5 hL, jn_cl i6 hL]
    have ev : ∀ c, c < 7 → zA h r (7 * k + c) = evk l k c := fun c hc => hER.2.2.2.2 k c hkl hc
    rw [show zA h r (7 * k) = evk l k 0 from ev 0 (by decide), ev 1 (by decide), ev 2 (by decide), ev 3 (by decide), ev 4 (by decide), ev 5 (by decide), ev 6 (by decide)]
    simp only [e81_155, o_iload, o_lload, o_aload, o_istore, o_lstore, o_astore, o_iinc, o_ipush, o_lpush, o_null, o_ibin, o_ineg, o_lbin, o_ldv, o_lneg, o_lcmp, o_i2l, o_l2i, o_dup, o_pop, o_dupx, o_dup2, o_ic, o_iz, o_nul, o_acmp, o_tsw, o_gI, o_gR, o_pI, o_pZ, o_pR, o_iald, o_bald, o_lald, o_aald, o_iast, o_bast, o_last, o_aast, o_alen, o_newa, o_new, o_mna, o_cast, o_calls, o_callv, o_calli, o_oinit, o_getC, o_refp, o_cpi, o_cpo, o_mmax, o_mmin, o_lmin, o_iret, o_zret, o_lret, o_aret, o_vret, jd_lo, jd_la, jd_nl, jd_pop, List.length_cons, List.length_nil, List.set_cons_zero, List.set_cons_succ, List.getElem?_cons_zero, List.getElem?_cons_succ, List.replicate_succ, List.replicate_zero, List.cons_append, List.nil_append, List.append_nil, Value.category, Option.toList, va_rf, true_implies, false_implies, false_and, and_false, and_true, true_and, and_self, true_or, or_true, false_or, or_false, not_true_eq_false, not_false_eq_true, forall_const, implies_true, if_true, if_false, reduceCtorEq, reduceIte, Nat.reduceAdd, Nat.reduceMul, Nat.reduceSub, Nat.reduceDiv, Nat.reduceMod, Nat.reduceEqDiff, Nat.reduceLeDiff, Nat.reduceLT, Nat.zero_le, Nat.lt_add_one, Nat.le_refl, Nat.sub_zero, Nat.zero_lt_succ, ge_iff_le, ji_m2, ji_m1, ji_0, ji_1, ji_2, ji_3, ji_4, ji_5, ji_6, ji_7, ji_8, ji_10, ji_12, ji_29, ji_30, ji_31, ji_40, ji_60, ji_70, ji_80, ji_81, ji_360, ji_512, ji_972, ji_1000000, ji_2147483639, jl_m1, jl_0, jl_1]
    have hok1 := lastn_ok hok (k + 1)
    rw [lastn_s hkl] at hok1
    obtain ⟨hokk, ⟨r1, s1⟩, hdo⟩ := hok1
    obtain ⟨n, lo, na, p, hI, hJ⟩ := IJ_rep rfl hq2 hpo hw _ hokk
    refine ⟨MS_K hM, ?_⟩
    refine k_does (d := d) hM hR hI hat hv hpp hpo' (fun hz => ?_) (fun r' s' h' hz hR' hF' => ?_)
    · rw [hdo] at hz; cases hz
    · have hF := MG_F hF'
      have hM' := MG_MS hF hM
      simp only [e81_158, e81_160, e81_163, o_iload, o_lload, o_aload, o_istore, o_lstore, o_astore, o_iinc, o_ipush, o_lpush, o_null, o_ibin, o_ineg, o_lbin, o_ldv, o_lneg, o_lcmp, o_i2l, o_l2i, o_dup, o_pop, o_dupx, o_dup2, o_ic, o_iz, o_nul, o_acmp, o_tsw, o_gI, o_gR, o_pI, o_pZ, o_pR, o_iald, o_bald, o_lald, o_aald, o_iast, o_bast, o_last, o_aast, o_alen, o_newa, o_new, o_mna, o_cast, o_calls, o_callv, o_calli, o_oinit, o_getC, o_refp, o_cpi, o_cpo, o_mmax, o_mmin, o_lmin, o_iret, o_zret, o_lret, o_aret, o_vret, jd_lo, jd_la, jd_nl, jd_pop, List.length_cons, List.length_nil, List.set_cons_zero, List.set_cons_succ, List.getElem?_cons_zero, List.getElem?_cons_succ, List.replicate_succ, List.replicate_zero, List.cons_append, List.nil_append, List.append_nil, Value.category, Option.toList, va_rf, true_implies, false_implies, false_and, and_false, and_true, true_and, and_self, true_or, or_true, false_or, or_false, not_true_eq_false, not_false_eq_true, forall_const, implies_true, if_true, if_false, reduceCtorEq, reduceIte, Nat.reduceAdd, Nat.reduceMul, Nat.reduceSub, Nat.reduceDiv, Nat.reduceMod, Nat.reduceEqDiff, Nat.reduceLeDiff, Nat.reduceLT, Nat.zero_le, Nat.lt_add_one, Nat.le_refl, Nat.sub_zero, Nat.zero_lt_succ, ge_iff_le, ji_m2, ji_m1, ji_0, ji_1, ji_2, ji_3, ji_4, ji_5, ji_6, ji_7, ji_8, ji_10, ji_12, ji_29, ji_30, ji_31, ji_40, ji_60, ji_70, ji_80, ji_81, ji_360, ji_512, ji_972, ji_1000000, ji_2147483639, jl_m1, jl_0, jl_1, jn_sc]
      have hrs : rep (nI q) po w0 (lastn l (k + 1)) = s' := by rw [lastn_s hkl]; exact rep_c hz
      refine ih (k + 1) (by omega) _ _ _ h' hM' (by rw [hrs]; exact hR') ?_ ?_ ?_ ?_ ?_ ?_ hrne ?_ (fun h2 hR2 hF2 => hQ h2 hR2 (MG_t hF hF2))
      · rw [hF'.2.2.2.2.2.1 582 m (fun _ => by omega)]; exact hat
      · rw [hF'.2.2.2.2.2.1 616 m (fun _ => by omega)]; exact had
      · rw [MG_ro hF hM (by omega)]; exact hpp
      · rw [MG_ro hF hM (by omega)]; exact hpo'
      · rw [MG_ro hF hM (by omega)]; exact hmany
      · rw [hF.2.2.2.2.1]; exact hrow
      · have hAr : zA h' r = zA h r := hF.2.2.2.2.2.2 r hrne
        unfold ER
        rw [hF.1, hF.2.2.1, hAr]
        exact hER
theorem wI_s {f a : Nat} {x : Int32} : zI (wI h f a x) f a = x := by rw [rw_II]; exact if_pos ⟨rfl, rfl⟩
theorem wI_ne {f p a b : Nat} {x : Int32} (hf : p ≠ f) : zI (wI h f a x) p b = zI h p b := by rw [rw_II]; exact if_neg (fun z => hf z.1)
theorem RM_0 (e1 : ∀ k, k < 7 → zI h (583 + k) m = v0.1 k) : RM h m ma v0 :=
  ⟨e1, fun k i hk hi => absurd hi (Nat.not_lt_zero _), fun k a i hk ha hi => absurd ha (Nat.not_lt_zero _), fun a o ha ho => absurd ha (Nat.not_lt_zero _)⟩
set_option maxRecDepth 100000 in
theorem k_go2 {h0 : jd_H} (hM : MS h m ma) (hv : v < 6) (hq2 : 2 ≤ q ∧ q ≤ 10) (hpo : 0 ≤ po ∧ po ≤ 29) (hw : 1 ≤ w0 ∧ w0 ≤ 1000000) (hok : okl (nI q) po w0 l) (hlen : l.length ≤ 511) (hpp : zA h (ma 4) v = nI q) (hpo' : zA h (ma 2) v = po) (hw' : zA h (ma 3) v = w0) (hmany : zA h (ma 1) v = nI l.length) (hrow : zO h (ma 0) v = some r) (hrne : ∀ k, 14 ≤ k → k ≤ 26 → r ≠ ma k) (hER : ER h r l)
    (hF0 : MG m ma h h0) (hR0 : RM h0 m ma v0) (h582 : zI h0 582 m = nI v) (h616 : zI h0 616 m = -2)
    (hQ1 : ∀ h', RM h' m ma (rep (nI q) po w0 l) → MG m ma h h' → zI h' 582 m = nI v → zI h' 616 m = -2 → Q none h') : jd_w g (d + 4) 81 Q 55 [some (.ref m), some (.int (nI v)), none, none, none, none, none] [] h0 0 0 := by
  have hM0 := MG_MS hF0 hM
  have a2 : zA h0 (ma 2) v = po := by rw [MG_ro hF0 hM (by omega)]; exact hpo'
  have a3 : zA h0 (ma 3) v = w0 := by rw [MG_ro hF0 hM (by omega)]; exact hw'
  simp only [e81_55, e81_56, e81_57, e81_60, e81_61, e81_62, e81_63, e81_66, e81_67, e81_68, e81_69, e81_72, e81_73, e81_74, e81_75, e81_76, o_iload, o_lload, o_aload, o_istore, o_lstore, o_astore, o_iinc, o_ipush, o_lpush, o_null, o_ibin, o_ineg, o_lbin, o_ldv, o_lneg, o_lcmp, o_i2l, o_l2i, o_dup, o_pop, o_dupx, o_dup2, o_ic, o_iz, o_nul, o_acmp, o_tsw, o_gI, o_gR, o_pI, o_pZ, o_pR, o_iald, o_bald, o_lald, o_aald, o_iast, o_bast, o_last, o_aast, o_alen, o_newa, o_new, o_mna, o_cast, o_calls, o_callv, o_calli, o_oinit, o_getC, o_refp, o_cpi, o_cpo, o_mmax, o_mmin, o_lmin, o_iret, o_zret, o_lret, o_aret, o_vret, jd_lo, jd_la, jd_nl, jd_pop, List.length_cons, List.length_nil, List.set_cons_zero, List.set_cons_succ, List.getElem?_cons_zero, List.getElem?_cons_succ, List.replicate_succ, List.replicate_zero, List.cons_append, List.nil_append, List.append_nil, Value.category, Option.toList, va_rf, true_implies, false_implies, false_and, and_false, and_true, true_and, and_self, true_or, or_true, false_or, or_false, not_true_eq_false, not_false_eq_true, forall_const, implies_true, if_true, if_false, reduceCtorEq, reduceIte, Nat.reduceAdd, Nat.reduceMul, Nat.reduceSub, Nat.reduceDiv, Nat.reduceMod, Nat.reduceEqDiff, Nat.reduceLeDiff, Nat.reduceLT, Nat.zero_le, Nat.lt_add_one, Nat.le_refl, Nat.sub_zero, Nat.zero_lt_succ, ge_iff_le, ji_m2, ji_m1, ji_0, ji_1, ji_2, ji_3, ji_4, ji_5, ji_6, ji_7, ji_8, ji_10, ji_12, ji_29, ji_30, ji_31, ji_40, ji_60, ji_70, ji_80, ji_81, ji_360, ji_512, ji_972, ji_1000000, ji_2147483639, jl_m1, jl_0, jl_1, MS_K hM0, MS_inj hM0, MS_R0 hM0, MS_K0 hM0, MS_L0 hM0, MS_R1 hM0, MS_K1 hM0, MS_L1 hM0, MS_R2 hM0, MS_K2 hM0, MS_L2 hM0, MS_R3 hM0, MS_K3 hM0, MS_L3 hM0, MS_R4 hM0, MS_K4 hM0, MS_L4 hM0, MS_R14 hM0, MS_K14 hM0, MS_L14 hM0, MS_R15 hM0, MS_K15 hM0, MS_L15 hM0, MS_R16 hM0, MS_K16 hM0, MS_L16 hM0, MS_R17 hM0, MS_K17 hM0, MS_L17 hM0, MS_R18 hM0, MS_K18 hM0, MS_L18 hM0, MS_R19 hM0, MS_K19 hM0, MS_L19 hM0, MS_R20 hM0, MS_K20 hM0, MS_L20 hM0, MS_R21 hM0, MS_K21 hM0, MS_L21 hM0, MS_R22 hM0, MS_K22 hM0, MS_L22 hM0, MS_R23 hM0, MS_K23 hM0, MS_L23 hM0, MS_R24 hM0, MS_K24 hM0, MS_L24 hM0, MS_R25 hM0, MS_K25 hM0, MS_L25 hM0, MS_R26 hM0, MS_K26 hM0, MS_L26 hM0, MS_R27 hM0, MS_K27 hM0, MS_L27 hM0, MS_R28 hM0, MS_K28 hM0, MS_L28 hM0, MS_R29 hM0, MS_K29 hM0, MS_L29 hM0, MS_R30 hM0, MS_K30 hM0, MS_L30 hM0, MS_R31 hM0, MS_K31 hM0, MS_L31 hM0, MS_R32 hM0, MS_K32 hM0, MS_L32 hM0, MS_R33 hM0, MS_K33 hM0, MS_L33 hM0, MS_R34 hM0, MS_K34 hM0, MS_L34 hM0, MS_R35 hM0, MS_K35 hM0, MS_L35 hM0, MS_R36 hM0, MS_K36 hM0, MS_L36 hM0, MS_R37 hM0, MS_K37 hM0, MS_L37 hM0, MS_R38 hM0, MS_K38 hM0, MS_L38 hM0, MS_R41 hM0, MS_K41 hM0, MS_L41 hM0, jn_in hv (by decide), jn_cl hv (by decide), a2, a3]
  refine k_comes (d := d + 3) (n := 0) hM0 hR0 rfl (by decide) (fun h1 hR1 hF1 => ?_)
  have hF1' := MG_F hF1
  have hF := MG_t hF0 hF1'
  have hM1 := MG_MS hF hM
  simp only [e81_79, e81_80, e81_81, o_iload, o_lload, o_aload, o_istore, o_lstore, o_astore, o_iinc, o_ipush, o_lpush, o_null, o_ibin, o_ineg, o_lbin, o_ldv, o_lneg, o_lcmp, o_i2l, o_l2i, o_dup, o_pop, o_dupx, o_dup2, o_ic, o_iz, o_nul, o_acmp, o_tsw, o_gI, o_gR, o_pI, o_pZ, o_pR, o_iald, o_bald, o_lald, o_aald, o_iast, o_bast, o_last, o_aast, o_alen, o_newa, o_new, o_mna, o_cast, o_calls, o_callv, o_calli, o_oinit, o_getC, o_refp, o_cpi, o_cpo, o_mmax, o_mmin, o_lmin, o_iret, o_zret, o_lret, o_aret, o_vret, jd_lo, jd_la, jd_nl, jd_pop, List.length_cons, List.length_nil, List.set_cons_zero, List.set_cons_succ, List.getElem?_cons_zero, List.getElem?_cons_succ, List.replicate_succ, List.replicate_zero, List.cons_append, List.nil_append, List.append_nil, Value.category, Option.toList, va_rf, true_implies, false_implies, false_and, and_false, and_true, true_and, and_self, true_or, or_true, false_or, or_false, not_true_eq_false, not_false_eq_true, forall_const, implies_true, if_true, if_false, reduceCtorEq, reduceIte, Nat.reduceAdd, Nat.reduceMul, Nat.reduceSub, Nat.reduceDiv, Nat.reduceMod, Nat.reduceEqDiff, Nat.reduceLeDiff, Nat.reduceLT, Nat.zero_le, Nat.lt_add_one, Nat.le_refl, Nat.sub_zero, Nat.zero_lt_succ, ge_iff_le, ji_m2, ji_m1, ji_0, ji_1, ji_2, ji_3, ji_4, ji_5, ji_6, ji_7, ji_8, ji_10, ji_12, ji_29, ji_30, ji_31, ji_40, ji_60, ji_70, ji_80, ji_81, ji_360, ji_512, ji_972, ji_1000000, ji_2147483639, jl_m1, jl_0, jl_1]
  refine k_goL (w0 := w0) (r := r) hv hq2 hpo hw hok hlen (x := none) (y := none) (z := none) l.length 0 (by omega) none none none h1 hM1 (by rw [lastn_0]; exact hR1) ?_ ?_ ?_ ?_ ?_ ?_ hrne ?_ (fun h2 hR2 hF2 => hQ1 h2 hR2 (MG_t hF hF2))
  · rw [hF1.2.2.2.2.2.1 582 m (fun _ => by omega)]; exact h582
  · rw [hF1.2.2.2.2.2.1 616 m (fun _ => by omega)]; exact h616
  · rw [MG_ro hF hM (by omega)]; exact hpp
  · rw [MG_ro hF hM (by omega)]; exact hpo'
  · rw [MG_ro hF hM (by omega)]; exact hmany
  · rw [hF.2.2.2.2.1]; exact hrow
  · have hAr : zA h1 r = zA h r := hF.2.2.2.2.2.2 r hrne
    unfold ER
    rw [hF.1, hF.2.2.1, hAr]
    exact hER
set_option maxRecDepth 100000 in
theorem k_go (hM : MS h m ma) (hv : v < 6) (hq2 : 2 ≤ q ∧ q ≤ 10) (hpo : 0 ≤ po ∧ po ≤ 29) (hw : 1 ≤ w0 ∧ w0 ≤ 1000000) (hok : okl (nI q) po w0 l) (hlen : l.length ≤ 511) (hpp : zA h (ma 4) v = nI q) (hpo' : zA h (ma 2) v = po) (hw' : zA h (ma 3) v = w0) (hmany : zA h (ma 1) v = nI l.length) (hrow : zO h (ma 0) v = some r) (hrne : ∀ k, 14 ≤ k → k ≤ 26 → r ≠ ma k) (hER : ER h r l)
    (hQ0 : zI h 582 m = nI v → Q none h) (hQ1 : ∀ h', RM h' m ma (rep (nI q) po w0 l) → MG m ma h h' → zI h' 582 m = nI v → zI h' 616 m = -2 → Q none h') : jd_WM g (d + 5) 81 [.ref m, .int (nI v)] h Q := by
  refine ⟨Nat.le_of_ble_eq_true rfl, ?_⟩; show jd_w g (d + 4) 81 Q 0 [some (.ref m), some (.int (nI v)), none, none, none, none, none] [] h 0 0
  simp only [e81_0, e81_1, e81_4, e81_5, e81_8, e81_9, e81_10, e81_11, e81_14, e81_15, e81_17, e81_20, e81_21, e81_22, e81_25, e81_26, e81_27, e81_30, e81_31, e81_32, e81_35, e81_36, e81_37, e81_40, e81_41, e81_42, e81_45, e81_46, e81_47, e81_50, e81_51, e81_52, o_iload, o_lload, o_aload, o_istore, o_lstore, o_astore, o_iinc, o_ipush, o_lpush, o_null, o_ibin, o_ineg, o_lbin, o_ldv, o_lneg, o_lcmp, o_i2l, o_l2i, o_dup, o_pop, o_dupx, o_dup2, o_ic, o_iz, o_nul, o_acmp, o_tsw, o_gI, o_gR, o_pI, o_pZ, o_pR, o_iald, o_bald, o_lald, o_aald, o_iast, o_bast, o_last, o_aast, o_alen, o_newa, o_new, o_mna, o_cast, o_calls, o_callv, o_calli, o_oinit, o_getC, o_refp, o_cpi, o_cpo, o_mmax, o_mmin, o_lmin, o_iret, o_zret, o_lret, o_aret, o_vret, jd_lo, jd_la, jd_nl, jd_pop, List.length_cons, List.length_nil, List.set_cons_zero, List.set_cons_succ, List.getElem?_cons_zero, List.getElem?_cons_succ, List.replicate_succ, List.replicate_zero, List.cons_append, List.nil_append, List.append_nil, Value.category, Option.toList, va_rf, true_implies, false_implies, false_and, and_false, and_true, true_and, and_self, true_or, or_true, false_or, or_false, not_true_eq_false, not_false_eq_true, forall_const, implies_true, if_true, if_false, reduceCtorEq, reduceIte, Nat.reduceAdd, Nat.reduceMul, Nat.reduceSub, Nat.reduceDiv, Nat.reduceMod, Nat.reduceEqDiff, Nat.reduceLeDiff, Nat.reduceLT, Nat.zero_le, Nat.lt_add_one, Nat.le_refl, Nat.sub_zero, Nat.zero_lt_succ, ge_iff_le, ji_m2, ji_m1, ji_0, ji_1, ji_2, ji_3, ji_4, ji_5, ji_6, ji_7, ji_8, ji_10, ji_12, ji_29, ji_30, ji_31, ji_40, ji_60, ji_70, ji_80, ji_81, ji_360, ji_512, ji_972, ji_1000000, ji_2147483639, jl_m1, jl_0, jl_1, rw_KI, rw_II, rw_RI, rw_LI, rw_AI, rw_JI, rw_OI, rw_KR, rw_IR, rw_RR, rw_LR, rw_AR, rw_JR, rw_OR, rw_KA, rw_IA, rw_RA, rw_LA, rw_AA, rw_JA, rw_OA, rw_KJ, rw_IJ, rw_RJ, rw_LJ, rw_AJ, rw_JJ, rw_OJ, rw_KO, rw_IO, rw_RO, rw_LO, rw_AO, rw_JO, rw_OO, rw_KAr, rw_IAr, rw_RAr, rw_LAr, rw_AAr, rw_JAr, rw_OAr, rw_KOr, rw_IOr, rw_ROr, rw_LOr, rw_AOr, rw_JOr, rw_OOr, rw_KN, rw_IN, rw_RN, rw_LN, rw_AN, rw_JN, rw_ON, rw_KY, rw_IY, rw_RY, rw_LY, rw_AY, rw_JY, rw_OY, MS_K hM, MS_inj hM, MS_R0 hM, MS_K0 hM, MS_L0 hM, MS_R1 hM, MS_K1 hM, MS_L1 hM, MS_R2 hM, MS_K2 hM, MS_L2 hM, MS_R3 hM, MS_K3 hM, MS_L3 hM, MS_R4 hM, MS_K4 hM, MS_L4 hM, MS_R14 hM, MS_K14 hM, MS_L14 hM, MS_R15 hM, MS_K15 hM, MS_L15 hM, MS_R16 hM, MS_K16 hM, MS_L16 hM, MS_R17 hM, MS_K17 hM, MS_L17 hM, MS_R18 hM, MS_K18 hM, MS_L18 hM, MS_R19 hM, MS_K19 hM, MS_L19 hM, MS_R20 hM, MS_K20 hM, MS_L20 hM, MS_R21 hM, MS_K21 hM, MS_L21 hM, MS_R22 hM, MS_K22 hM, MS_L22 hM, MS_R23 hM, MS_K23 hM, MS_L23 hM, MS_R24 hM, MS_K24 hM, MS_L24 hM, MS_R25 hM, MS_K25 hM, MS_L25 hM, MS_R26 hM, MS_K26 hM, MS_L26 hM, MS_R27 hM, MS_K27 hM, MS_L27 hM, MS_R28 hM, MS_K28 hM, MS_L28 hM, MS_R29 hM, MS_K29 hM, MS_L29 hM, MS_R30 hM, MS_K30 hM, MS_L30 hM, MS_R31 hM, MS_K31 hM, MS_L31 hM, MS_R32 hM, MS_K32 hM, MS_L32 hM, MS_R33 hM, MS_K33 hM, MS_L33 hM, MS_R34 hM, MS_K34 hM, MS_L34 hM, MS_R35 hM, MS_K35 hM, MS_L35 hM, MS_R36 hM, MS_K36 hM, MS_L36 hM, MS_R37 hM, MS_K37 hM, MS_L37 hM, MS_R38 hM, MS_K38 hM, MS_L38 hM, MS_R41 hM, MS_K41 hM, MS_L41 hM]
  refine ⟨fun z => ?_, fun z => hQ0 (Decidable.not_not.mp z)⟩
  refine k_go2 hM hv hq2 hpo hw hok hlen hpp hpo' hw' hmany hrow hrne hER (MG_I (MG_I (MG_I (MG_I (MG_I (MG_I (MG_I (MG_I (MG_I MG_r (by omega)) (by omega)) (by omega)) (by omega)) (by omega)) (by omega)) (by omega)) (by omega)) (by omega)) (RM_0 (fun k hk => ?_)) ?_ ?_ hQ1
  · have hk' : k = 0 ∨ k = 1 ∨ k = 2 ∨ k = 3 ∨ k = 4 ∨ k = 5 ∨ k = 6 := by omega
    rcases hk' with rfl | rfl | rfl | rfl | rfl | rfl | rfl
    · show zI _ 583 m = 0
      rw [wI_ne (by decide), wI_ne (by decide), wI_ne (by decide), wI_ne (by decide), wI_ne (by decide), wI_ne (by decide), wI_s]
    · show zI _ 584 m = 0
      rw [wI_ne (by decide), wI_ne (by decide), wI_ne (by decide), wI_s]
    · show zI _ 585 m = 0
      rw [wI_ne (by decide), wI_ne (by decide), wI_s]
    · show zI _ 586 m = 0
      rw [wI_ne (by decide), wI_s]
    · show zI _ 587 m = -1
      rw [wI_s]
    · show zI _ 588 m = 0
      rw [wI_ne (by decide), wI_ne (by decide), wI_ne (by decide), wI_ne (by decide), wI_ne (by decide), wI_s]
    · show zI _ 589 m = 0
      rw [wI_ne (by decide), wI_ne (by decide), wI_ne (by decide), wI_ne (by decide), wI_s]
  · rw [wI_ne (by decide), wI_ne (by decide), wI_ne (by decide), wI_ne (by decide), wI_ne (by decide), wI_ne (by decide), wI_ne (by decide), wI_ne (by decide), wI_s]
  · rw [wI_ne (by decide), wI_ne (by decide), wI_ne (by decide), wI_ne (by decide), wI_ne (by decide), wI_ne (by decide), wI_ne (by decide), wI_s]
end
