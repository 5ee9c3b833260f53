/-! A VOYAGE AS A MATHEMATICAL STATE, and what an event does to it. s.1: 0 port, 1 interests, 2 lots, 3 acts, 4 the open act (-1: none), 5 under way, 6 ended. s.2.1 k i, of interest i: 0 owner, 1 worth, 2 left, 3 told, 4 terms, 5 its port, 6 of a freight its lot, 7 its freight, 8 aboard. s.2.2.1 k a i, of act a: 0 at risk, 1 taken, 2 made good. s.2.2.2 a o: spent by owner o. -/
abbrev VS : Type := (Nat → Int32) × (Nat → Nat → Int32) × (Nat → Nat → Nat → Int32) × (Nat → Nat → Int32)
def cn (s : VS) : Nat := (s.1 1).toNatClampNeg
def ca (s : VS) : Nat := (s.1 3).toNatClampNeg
def u3 {α : Type} (f : Nat → Nat → Nat → α) (a b c : Nat) (x : α) : Nat → Nat → Nat → α := fun i j k => if i = a ∧ j = b ∧ k = c then x else f i j k
def vRow (o w t go te : Int32) (k : Nat) : Int32 := if k = 0 then o else if k = 1 then w else if k = 2 then w else if k = 3 then t else if k = 4 then te else if k = 5 then go else if k = 8 then 1 else -1
def vComes (s : VS) (o w t go te : Int32) : VS := (u1 s.1 1 (s.1 1 + 1), (fun k i => if i = cn s then vRow o w t go te k else s.2.1 k i), s.2.2)
def vLoad (pp po : Int32) (s : VS) (o w t go fr te : Int32) : Option (Int32 × VS) :=
  if s.1 5 ≠ 0 ∨ ¬ (0 ≤ o ∧ o ≤ 29) ∨ ¬ (1 ≤ w ∧ w ≤ 1000000) ∨ ¬ (1 ≤ t ∧ t ≤ w) ∨ ¬ (s.1 0 + 1 ≤ go ∧ go ≤ pp - 1) ∨ ¬ (0 ≤ fr ∧ fr ≤ 1000000) ∨ ¬ (0 ≤ te ∧ te ≤ 2) ∨ s.1 2 = 40 then none
  else
    let s1 := vComes (u1 (u1 s.1 2 (s.1 2 + 1)) 4 (-1), s.2) o w t go te
    if 0 < fr then
      let s2 := vComes s1 po fr fr go 0
      some (s.1 1, (s2.1, u2 (u2 s2.2.1 6 (cn s + 1) (s.1 1)) 7 (cn s) (s.1 1 + 1), s2.2.2))
    else some (s.1 1, s1)
def vMove (pp : Int32) (s : VS) : Int32 × VS :=
  if s.1 5 = 0 then (s.1 0, (u1 (u1 s.1 4 (-1)) 5 1, s.2))
  else (s.1 0 + 1, (u1 (u1 (u1 (u1 s.1 4 (-1)) 5 0) 0 (s.1 0 + 1)) 6 (if s.1 0 + 1 = pp - 1 then 1 else 0), (fun k i => if k = 8 ∧ 1 ≤ i ∧ i < cn s ∧ s.2.1 5 i = s.1 0 + 1 then 0 else s.2.1 k i), s.2.2))
def vAct (s : VS) : Option (Int32 × VS) :=
  if s.1 3 = 12 then none
  else some (s.1 3, (u1 (u1 s.1 4 (s.1 3)) 3 (s.1 3 + 1), s.2.1, (fun k a i => if a = ca s then (if k = 0 ∧ i < cn s ∧ ¬ s.2.1 8 i = 0 ∧ 0 < s.2.1 2 i then 1 else 0) else s.2.2.1 k a i), (fun a o => if a = ca s then 0 else s.2.2.2 a o)))
/-- n may be taken from interest j -/
def vCan (s : VS) (j : Nat) (n : Int32) : Prop := s.2.1 6 j = -1 ∧ ¬ s.2.1 8 j = 0 ∧ 1 ≤ n ∧ n ≤ s.2.1 2 j
/-- what its freight loses -/
def vLess (s : VS) (j : Nat) (n : Int32) : Int32 := if s.2.1 7 j = -1 then 0 else ((s.2.1 2 (s.2.1 7 j).toNatClampNeg).toInt64 * n.toInt64 / (s.2.1 2 j).toInt64).toInt32
def vTake (s : VS) (j : Nat) (n : Int32) : Nat → Nat → Int32 := if s.2.1 7 j = -1 then u2 s.2.1 2 j (s.2.1 2 j - n) else u2 (u2 s.2.1 2 j (s.2.1 2 j - n)) 2 (s.2.1 7 j).toNatClampNeg (s.2.1 2 (s.2.1 7 j).toNatClampNeg - vLess s j n)
def vGood (s : VS) (j : Nat) (n : Int32) : Int32 := if s.2.1 4 j = 0 then (n.toInt64 * (s.2.1 3 j).toInt64 / (s.2.1 1 j).toInt64).toInt32 else 0
def vGive1 (s : VS) (a j : Nat) (n : Int32) : VS :=
  let g1 := u3 (u3 s.2.2.1 1 a j (s.2.2.1 1 a j + n)) 2 a j (s.2.2.1 2 a j + vGood s j n)
  let k := (s.2.1 7 j).toNatClampNeg
  (s.1, vTake s j n, if s.2.1 7 j = -1 then g1 else u3 (u3 g1 1 a k (s.2.2.1 1 a k + vLess s j n)) 2 a k (s.2.2.1 2 a k + if s.2.1 4 j = 0 then vLess s j n else 0), s.2.2.2)
def vLose1 (s : VS) (j : Nat) (n : Int32) : VS := (u1 s.1 4 (-1), vTake s j n, s.2.2)
def vLost (s : VS) : VS := (u1 (u1 (u1 s.1 4 (-1)) 5 0) 6 1, (fun k i => if i < cn s ∧ k = 2 ∧ ¬ s.2.1 8 i = 0 then 0 else if i < cn s ∧ k = 8 then (if i = 0 then 1 else 0) else s.2.1 k i), s.2.2)
/-- what holds of every voyage: its numbers n, lots, acts, port -/
def IV (pp : Int32) (s : VS) (n lo na p : Nat) : Prop :=
  (s.1 1 = nI n ∧ 1 ≤ n ∧ n ≤ 1 + 2 * lo) ∧ (s.1 2 = nI lo ∧ lo ≤ 40) ∧ (s.1 3 = nI na ∧ na ≤ 12) ∧ (s.1 0 = nI p ∧ p ≤ 9) ∧ (s.1 4 = -1 ∨ (1 ≤ na ∧ s.1 4 = nI (na - 1))) ∧ (s.1 5 = 0 ∨ s.1 5 = 1) ∧ (s.1 6 = 0 ∨ s.1 6 = 1) ∧
  (∀ i, i < n → (s.2.1 8 i = 0 ∨ s.2.1 8 i = 1) ∧ (s.2.1 7 i = -1 ∨ (i + 1 < n ∧ s.2.1 7 i = nI (i + 1) ∧ s.2.1 6 i = -1 ∧ s.2.1 6 (i + 1) = nI i)) ∧ 0 ≤ s.2.1 2 i ∧ s.2.1 2 i ≤ s.2.1 1 i ∧ 1 ≤ s.2.1 1 i ∧ s.2.1 1 i ≤ 1000000 ∧ 1 ≤ s.2.1 3 i ∧ s.2.1 3 i ≤ s.2.1 1 i)
/-- the reference's arrays hold s -/
def RM (h : jd_H) (m : Nat) (ma : Nat → Nat) (s : VS) : Prop := (∀ k, k < 7 → zI h (583 + k) m = s.1 k) ∧ (∀ k i, k < 9 → i < cn s → zA h (ma (14 + k)) i = s.2.1 k i) ∧ (∀ k a i, k < 3 → a < ca s → i < 81 → zA h (ma (23 + k)) (81 * a + i) = s.2.2.1 k a i) ∧ ∀ a o, a < ca s → o < 30 → zA h (ma 26) (30 * a + o) = s.2.2.2 a o
/-- h' is h but for the reference's copy of one voyage -/
def MF (m : Nat) (ma : Nat → Nat) (h h' : jd_H) : Prop := zK h' = zK h ∧ zR h' = zR h ∧ zL h' = zL h ∧ zJ h' = zJ h ∧ zO h' = zO h ∧ (∀ f a, (a = m → f < 583 ∨ 589 < f) → zI h' f a = zI h f a) ∧ ∀ a, (∀ k, 14 ≤ k → k ≤ 26 → a ≠ ma k) → zA h' a = zA h a
section
variable {m : Nat} {ma : Nat → Nat} {h h1 h2 : jd_H}
theorem MF_r : MF m ma h h := ⟨rfl, rfl, rfl, rfl, rfl, fun _ _ _ => rfl, fun _ _ => rfl⟩
theorem MF_t (a : MF m ma h h1) (b : MF m ma h1 h2) : MF m ma h h2 := ⟨b.1.trans a.1, b.2.1.trans a.2.1, b.2.2.1.trans a.2.2.1, b.2.2.2.1.trans a.2.2.2.1, b.2.2.2.2.1.trans a.2.2.2.2.1, fun f x q => (b.2.2.2.2.2.1 f x q).trans (a.2.2.2.2.2.1 f x q), fun x q => (b.2.2.2.2.2.2 x q).trans (a.2.2.2.2.2.2 x q)⟩
theorem MF_I {f : Nat} {x : Int32} (a : MF m ma h h1) (h1f : 583 ≤ f) (h2f : f ≤ 589) : MF m ma h (wI h1 f m x) := MF_t a ⟨rfl, rfl, rfl, rfl, rfl, fun f' b q => by
  rw [rw_II]
  split
  · next z => have := q z.2; omega
  · rfl, fun _ _ => rfl⟩
theorem MF_A {k i : Nat} {x : Int32} (a : MF m ma h h1) (h1k : 14 ≤ k) (h2k : k ≤ 26) : MF m ma h (wA h1 (ma k) i x) := MF_t a ⟨rfl, rfl, rfl, rfl, rfl, fun _ _ _ => rfl, fun b q => by
  funext j
  rw [rw_AA]
  split
  · next z => exact absurd z.1 (q k h1k h2k)
  · rfl⟩
theorem MF_MS (a : MF m ma h h1) (q : MS h m ma) : MS h1 m ma := by
  unfold MS at q ⊢
  rw [a.1, a.2.1, a.2.2.1]
  exact q
end
section
variable {g d m : Nat} {ma : Nat → Nat} {h : jd_H} {Q : jd_Q}
set_option maxRecDepth 100000 in
theorem k_comes {o w t go te : Int32} {s : VS} {n : Nat} (hM : MS h m ma) (hR : RM h m ma s) (hn : s.1 1 = nI n) (h81 : n < 81) (hQ : ∀ h', RM h' m ma (vComes s o w t go te) → MF m ma h h' → Q (some (.int (nI n))) h') : jd_WM g (d + 1) 82 [.ref m, .int o, .int w, .int t, .int go, .int te] h Q := by
  refine ⟨Nat.le_of_ble_eq_true rfl, ?_⟩; show jd_w g d 82 Q 0 [some (.ref m), some (.int o), some (.int w), some (.int t), some (.int go), some (.int te), none] [] h 0 0
  have e1 : zI h 584 m = nI n := (hR.1 1 (by decide)).trans hn
  simp only [e82_0, e82_1, e82_4, e82_6, e82_7, e82_10, e82_12, e82_13, e82_14, e82_15, e82_18, e82_20, e82_21, e82_22, e82_23, e82_26, e82_28, e82_29, e82_30, e82_31, e82_34, e82_36, e82_37, e82_38, e82_39, e82_42, e82_44, e82_46, e82_47, e82_48, e82_51, e82_53, e82_55, e82_56, e82_57, e82_60, e82_62, e82_63, e82_64, e82_65, e82_68, e82_70, e82_71, e82_72, e82_73, e82_76, e82_78, e82_79, e82_80, e82_81, e82_82, e82_85, e82_86, e82_87, e82_90, e82_92, o_iload, o_lload, o_aload, o_istore, o_lstore, o_astore, o_iinc, o_ipush, o_lpush, o_null, o_ibin, o_ineg, o_lbin, o_ldv, o_lneg, o_lcmp, o_i2l, o_l2i, o_dup, o_pop, o_dupx, o_dup2, o_ic, o_iz, o_nul, o_acmp, o_tsw, o_gI, o_gR, o_pI, o_pZ, o_pR, o_iald, o_bald, o_lald, o_aald, o_iast, o_bast, o_last, o_aast, o_alen, o_newa, o_new, o_mna, o_cast, o_calls, o_callv, o_calli, o_oinit, o_getC, o_refp, o_cpi, o_cpo, o_mmax, o_mmin, o_lmin, o_iret, o_zret, o_lret, o_aret, o_vret, jd_lo, jd_la, jd_nl, jd_pop, List.length_cons, List.length_nil, List.set_cons_zero, List.set_cons_succ, List.getElem?_cons_zero, List.getElem?_cons_succ, List.replicate_succ, List.replicate_zero, List.cons_append, List.nil_append, List.append_nil, Value.category, Option.toList, va_rf, true_implies, false_implies, false_and, and_false, and_true, true_and, and_self, true_or, or_true, false_or, or_false, not_true_eq_false, not_false_eq_true, forall_const, implies_true, if_true, if_false, reduceCtorEq, reduceIte, Nat.reduceAdd, Nat.reduceMul, Nat.reduceSub, Nat.reduceDiv, Nat.reduceMod, Nat.reduceEqDiff, Nat.reduceLeDiff, Nat.reduceLT, Nat.zero_le, Nat.lt_add_one, Nat.le_refl, Nat.sub_zero, Nat.zero_lt_succ, ge_iff_le, ji_m2, ji_m1, ji_0, ji_1, ji_2, ji_3, ji_4, ji_5, ji_6, ji_7, ji_8, ji_10, ji_12, ji_29, ji_30, ji_31, ji_40, ji_60, ji_70, ji_80, ji_81, ji_360, ji_512, ji_972, ji_1000000, ji_2147483639, jl_m1, jl_0, jl_1, rw_KI, rw_II, rw_RI, rw_LI, rw_AI, rw_JI, rw_OI, rw_KR, rw_IR, rw_RR, rw_LR, rw_AR, rw_JR, rw_OR, rw_KA, rw_IA, rw_RA, rw_LA, rw_AA, rw_JA, rw_OA, rw_KJ, rw_IJ, rw_RJ, rw_LJ, rw_AJ, rw_JJ, rw_OJ, rw_KO, rw_IO, rw_RO, rw_LO, rw_AO, rw_JO, rw_OO, rw_KAr, rw_IAr, rw_RAr, rw_LAr, rw_AAr, rw_JAr, rw_OAr, rw_KOr, rw_IOr, rw_ROr, rw_LOr, rw_AOr, rw_JOr, rw_OOr, rw_KN, rw_IN, rw_RN, rw_LN, rw_AN, rw_JN, rw_ON, rw_KY, rw_IY, rw_RY, rw_LY, rw_AY, rw_JY, rw_OY, MS_K hM, MS_inj hM, MS_R0 hM, MS_K0 hM, MS_L0 hM, MS_R1 hM, MS_K1 hM, MS_L1 hM, MS_R2 hM, MS_K2 hM, MS_L2 hM, MS_R3 hM, MS_K3 hM, MS_L3 hM, MS_R4 hM, MS_K4 hM, MS_L4 hM, MS_R14 hM, MS_K14 hM, MS_L14 hM, MS_R15 hM, MS_K15 hM, MS_L15 hM, MS_R16 hM, MS_K16 hM, MS_L16 hM, MS_R17 hM, MS_K17 hM, MS_L17 hM, MS_R18 hM, MS_K18 hM, MS_L18 hM, MS_R19 hM, MS_K19 hM, MS_L19 hM, MS_R20 hM, MS_K20 hM, MS_L20 hM, MS_R21 hM, MS_K21 hM, MS_L21 hM, MS_R22 hM, MS_K22 hM, MS_L22 hM, MS_R23 hM, MS_K23 hM, MS_L23 hM, MS_R24 hM, MS_K24 hM, MS_L24 hM, MS_R25 hM, MS_K25 hM, MS_L25 hM, MS_R26 hM, MS_K26 hM, MS_L26 hM, MS_R27 hM, MS_K27 hM, MS_L27 hM, MS_R28 hM, MS_K28 hM, MS_L28 hM, MS_R29 hM, MS_K29 hM, MS_L29 hM, MS_R30 hM, MS_K30 hM, MS_L30 hM, MS_R31 hM, MS_K31 hM, MS_L31 hM, MS_R32 hM, MS_K32 hM, MS_L32 hM, MS_R33 hM, MS_K33 hM, MS_L33 hM, MS_R34 hM, MS_K34 hM, MS_L34 hM, MS_R35 hM, MS_K35 hM, MS_L35 hM, MS_R36 hM, MS_K36 hM, MS_L36 hM, MS_R37 hM, MS_K37 hM, MS_L37 hM, MS_R38 hM, MS_K38 hM, MS_L38 hM, MS_R41 hM, MS_K41 hM, MS_L41 hM, e1, jn_in h81 (by decide), jn_cl h81 (by decide), jn_sc]
  have hc : cn s = n := by unfold cn; rw [hn]; exact jn_cl h81 (by decide)
  refine hQ _ ⟨fun k hk => ?_, fun k i hk hi => ?_, fun k a i hk ha hi => ?_, fun a o ha ho => ?_⟩ ?_
  · have := hR.1 k hk
    simp only [rw_KI, rw_II, rw_RI, rw_LI, rw_AI, rw_JI, rw_OI, rw_KR, rw_IR, rw_RR, rw_LR, rw_AR, rw_JR, rw_OR, rw_KA, rw_IA, rw_RA, rw_LA, rw_AA, rw_JA, rw_OA, rw_KJ, rw_IJ, rw_RJ, rw_LJ, rw_AJ, rw_JJ, rw_OJ, rw_KO, rw_IO, rw_RO, rw_LO, rw_AO, rw_JO, rw_OO, rw_KAr, rw_IAr, rw_RAr, rw_LAr, rw_AAr, rw_JAr, rw_OAr, rw_KOr, rw_IOr, rw_ROr, rw_LOr, rw_AOr, rw_JOr, rw_OOr, rw_KN, rw_IN, rw_RN, rw_LN, rw_AN, rw_JN, rw_ON, rw_KY, rw_IY, rw_RY, rw_LY, rw_AY, rw_JY, rw_OY, vComes, u1]
    by_cases hk1 : k = 1
    · subst hk1; simp [hn, jn_sc]
    · have : ¬ (583 + k = 584) := by omega
      simp [hk1, this, hR.1 k hk]
  · have hcs : cn (vComes s o w t go te) = n + 1 := by
      unfold cn vComes; simp only [u1, if_true, hn, jn_sc]; exact jn_cl (show n + 1 < 82 by omega) (by decide)
    rw [hcs] at hi
    simp only [rw_KI, rw_II, rw_RI, rw_LI, rw_AI, rw_JI, rw_OI, rw_KR, rw_IR, rw_RR, rw_LR, rw_AR, rw_JR, rw_OR, rw_KA, rw_IA, rw_RA, rw_LA, rw_AA, rw_JA, rw_OA, rw_KJ, rw_IJ, rw_RJ, rw_LJ, rw_AJ, rw_JJ, rw_OJ, rw_KO, rw_IO, rw_RO, rw_LO, rw_AO, rw_JO, rw_OO, rw_KAr, rw_IAr, rw_RAr, rw_LAr, rw_AAr, rw_JAr, rw_OAr, rw_KOr, rw_IOr, rw_ROr, rw_LOr, rw_AOr, rw_JOr, rw_OOr, rw_KN, rw_IN, rw_RN, rw_LN, rw_AN, rw_JN, rw_ON, rw_KY, rw_IY, rw_RY, rw_LY, rw_AY, rw_JY, rw_OY, MS_K hM, MS_inj hM, MS_R0 hM, MS_K0 hM, MS_L0 hM, MS_R1 hM, MS_K1 hM, MS_L1 hM, MS_R2 hM, MS_K2 hM, MS_L2 hM, MS_R3 hM, MS_K3 hM, MS_L3 hM, MS_R4 hM, MS_K4 hM, MS_L4 hM, MS_R14 hM, MS_K14 hM, MS_L14 hM, MS_R15 hM, MS_K15 hM, MS_L15 hM, MS_R16 hM, MS_K16 hM, MS_L16 hM, MS_R17 hM, MS_K17 hM, MS_L17 hM, MS_R18 hM, MS_K18 hM, MS_L18 hM, MS_R19 hM, MS_K19 hM, MS_L19 hM, MS_R20 hM, MS_K20 hM, MS_L20 hM, MS_R21 hM, MS_K21 hM, MS_L21 hM, MS_R22 hM, MS_K22 hM, MS_L22 hM, MS_R23 hM, MS_K23 hM, MS_L23 hM, MS_R24 hM, MS_K24 hM, MS_L24 hM, MS_R25 hM, MS_K25 hM, MS_L25 hM, MS_R26 hM, MS_K26 hM, MS_L26 hM, MS_R27 hM, MS_K27 hM, MS_L27 hM, MS_R28 hM, MS_K28 hM, MS_L28 hM, MS_R29 hM, MS_K29 hM, MS_L29 hM, MS_R30 hM, MS_K30 hM, MS_L30 hM, MS_R31 hM, MS_K31 hM, MS_L31 hM, MS_R32 hM, MS_K32 hM, MS_L32 hM, MS_R33 hM, MS_K33 hM, MS_L33 hM, MS_R34 hM, MS_K34 hM, MS_L34 hM, MS_R35 hM, MS_K35 hM, MS_L35 hM, MS_R36 hM, MS_K36 hM, MS_L36 hM, MS_R37 hM, MS_K37 hM, MS_L37 hM, MS_R38 hM, MS_K38 hM, MS_L38 hM, MS_R41 hM, MS_K41 hM, MS_L41 hM, vComes, hc]
    by_cases hin : i = n
    · subst hin
      have hk' : k = 0 ∨ k = 1 ∨ k = 2 ∨ k = 3 ∨ k = 4 ∨ k = 5 ∨ k = 6 ∨ k = 7 ∨ k = 8 := by omega
      rcases hk' with rfl | rfl | rfl | rfl | rfl | rfl | rfl | rfl | rfl <;> simp [vRow]
    · simp [hin, hR.2.1 k i hk (by rw [hc]; omega)]
  · have h26 : ∀ x, 14 ≤ x → x ≤ 22 → ¬ (23 + k = x) := fun x _ _ => by omega
    simp only [rw_KI, rw_II, rw_RI, rw_LI, rw_AI, rw_JI, rw_OI, rw_KR, rw_IR, rw_RR, rw_LR, rw_AR, rw_JR, rw_OR, rw_KA, rw_IA, rw_RA, rw_LA, rw_AA, rw_JA, rw_OA, rw_KJ, rw_IJ, rw_RJ, rw_LJ, rw_AJ, rw_JJ, rw_OJ, rw_KO, rw_IO, rw_RO, rw_LO, rw_AO, rw_JO, rw_OO, rw_KAr, rw_IAr, rw_RAr, rw_LAr, rw_AAr, rw_JAr, rw_OAr, rw_KOr, rw_IOr, rw_ROr, rw_LOr, rw_AOr, rw_JOr, rw_OOr, rw_KN, rw_IN, rw_RN, rw_LN, rw_AN, rw_JN, rw_ON, rw_KY, rw_IY, rw_RY, rw_LY, rw_AY, rw_JY, rw_OY, MS_K hM, MS_inj hM, MS_R0 hM, MS_K0 hM, MS_L0 hM, MS_R1 hM, MS_K1 hM, MS_L1 hM, MS_R2 hM, MS_K2 hM, MS_L2 hM, MS_R3 hM, MS_K3 hM, MS_L3 hM, MS_R4 hM, MS_K4 hM, MS_L4 hM, MS_R14 hM, MS_K14 hM, MS_L14 hM, MS_R15 hM, MS_K15 hM, MS_L15 hM, MS_R16 hM, MS_K16 hM, MS_L16 hM, MS_R17 hM, MS_K17 hM, MS_L17 hM, MS_R18 hM, MS_K18 hM, MS_L18 hM, MS_R19 hM, MS_K19 hM, MS_L19 hM, MS_R20 hM, MS_K20 hM, MS_L20 hM, MS_R21 hM, MS_K21 hM, MS_L21 hM, MS_R22 hM, MS_K22 hM, MS_L22 hM, MS_R23 hM, MS_K23 hM, MS_L23 hM, MS_R24 hM, MS_K24 hM, MS_L24 hM, MS_R25 hM, MS_K25 hM, MS_L25 hM, MS_R26 hM, MS_K26 hM, MS_L26 hM, MS_R27 hM, MS_K27 hM, MS_L27 hM, MS_R28 hM, MS_K28 hM, MS_L28 hM, MS_R29 hM, MS_K29 hM, MS_L29 hM, MS_R30 hM, MS_K30 hM, MS_L30 hM, MS_R31 hM, MS_K31 hM, MS_L31 hM, MS_R32 hM, MS_K32 hM, MS_L32 hM, MS_R33 hM, MS_K33 hM, MS_L33 hM, MS_R34 hM, MS_K34 hM, MS_L34 hM, MS_R35 hM, MS_K35 hM, MS_L35 hM, MS_R36 hM, MS_K36 hM, MS_L36 hM, MS_R37 hM, MS_K37 hM, MS_L37 hM, MS_R38 hM, MS_K38 hM, MS_L38 hM, MS_R41 hM, MS_K41 hM, MS_L41 hM]
    simp [show ¬ (23 + k = 14) by omega, show ¬ (23 + k = 15) by omega, show ¬ (23 + k = 16) by omega, show ¬ (23 + k = 17) by omega, show ¬ (23 + k = 18) by omega, show ¬ (23 + k = 19) by omega, show ¬ (23 + k = 20) by omega, show ¬ (23 + k = 21) by omega, show ¬ (23 + k = 22) by omega]
    exact hR.2.2.1 k a i hk ha hi
  · simp only [rw_KI, rw_II, rw_RI, rw_LI, rw_AI, rw_JI, rw_OI, rw_KR, rw_IR, rw_RR, rw_LR, rw_AR, rw_JR, rw_OR, rw_KA, rw_IA, rw_RA, rw_LA, rw_AA, rw_JA, rw_OA, rw_KJ, rw_IJ, rw_RJ, rw_LJ, rw_AJ, rw_JJ, rw_OJ, rw_KO, rw_IO, rw_RO, rw_LO, rw_AO, rw_JO, rw_OO, rw_KAr, rw_IAr, rw_RAr, rw_LAr, rw_AAr, rw_JAr, rw_OAr, rw_KOr, rw_IOr, rw_ROr, rw_LOr, rw_AOr, rw_JOr, rw_OOr, rw_KN, rw_IN, rw_RN, rw_LN, rw_AN, rw_JN, rw_ON, rw_KY, rw_IY, rw_RY, rw_LY, rw_AY, rw_JY, rw_OY, MS_K hM, MS_inj hM, MS_R0 hM, MS_K0 hM, MS_L0 hM, MS_R1 hM, MS_K1 hM, MS_L1 hM, MS_R2 hM, MS_K2 hM, MS_L2 hM, MS_R3 hM, MS_K3 hM, MS_L3 hM, MS_R4 hM, MS_K4 hM, MS_L4 hM, MS_R14 hM, MS_K14 hM, MS_L14 hM, MS_R15 hM, MS_K15 hM, MS_L15 hM, MS_R16 hM, MS_K16 hM, MS_L16 hM, MS_R17 hM, MS_K17 hM, MS_L17 hM, MS_R18 hM, MS_K18 hM, MS_L18 hM, MS_R19 hM, MS_K19 hM, MS_L19 hM, MS_R20 hM, MS_K20 hM, MS_L20 hM, MS_R21 hM, MS_K21 hM, MS_L21 hM, MS_R22 hM, MS_K22 hM, MS_L22 hM, MS_R23 hM, MS_K23 hM, MS_L23 hM, MS_R24 hM, MS_K24 hM, MS_L24 hM, MS_R25 hM, MS_K25 hM, MS_L25 hM, MS_R26 hM, MS_K26 hM, MS_L26 hM, MS_R27 hM, MS_K27 hM, MS_L27 hM, MS_R28 hM, MS_K28 hM, MS_L28 hM, MS_R29 hM, MS_K29 hM, MS_L29 hM, MS_R30 hM, MS_K30 hM, MS_L30 hM, MS_R31 hM, MS_K31 hM, MS_L31 hM, MS_R32 hM, MS_K32 hM, MS_L32 hM, MS_R33 hM, MS_K33 hM, MS_L33 hM, MS_R34 hM, MS_K34 hM, MS_L34 hM, MS_R35 hM, MS_K35 hM, MS_L35 hM, MS_R36 hM, MS_K36 hM, MS_L36 hM, MS_R37 hM, MS_K37 hM, MS_L37 hM, MS_R38 hM, MS_K38 hM, MS_L38 hM, MS_R41 hM, MS_K41 hM, MS_L41 hM]
    simp
    exact hR.2.2.2 a o ha ho
  · exact (MF_I (MF_A (MF_A (MF_A (MF_A (MF_A (MF_A (MF_A (MF_A (MF_A MF_r (by decide) (by decide)) (by decide) (by decide)) (by decide) (by decide)) (by decide) (by decide)) (by decide) (by decide)) (by decide) (by decide)) (by decide) (by decide)) (by decide) (by decide)) (by decide) (by decide)) (by decide) (by decide))
end
