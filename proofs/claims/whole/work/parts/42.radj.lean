/-! adjust of the reference -/
theorem lN_min (a b : Nat) (ha : a < 2 ^ 62) (hb : b < 2 ^ 62) : (if lN b < lN a then lN b else lN a) = lN (min a b) := by
  by_cases h : b < a
  · rw [if_pos ((pk_lLT (by omega) (by omega)).mpr h), Nat.min_eq_right (by omega)]
  · rw [if_neg (fun z => h ((pk_lLT (by omega) (by omega)).mp z)), Nat.min_eq_left (by omega)]
/-- only the reference's tables of the adjusting are written -/
def AX (m : Nat) (ma : Nat → Nat) (h h' : jd_H) : Prop := zK h' = zK h ∧ zR h' = zR h ∧ zL h' = zL h ∧ zA h' = zA h ∧ zO h' = zO h ∧ (∀ f a, ¬ (f = 616 ∧ a = m) → zI h' f a = zI h f a) ∧ ∀ a, (∀ k, ((27 ≤ k ∧ k ≤ 34) ∨ k = 41) → a ≠ ma k) → zJ h' a = zJ h a
section
variable {m : Nat} {ma : Nat → Nat} {h h1 h2 : jd_H}
theorem AX_r : AX m ma h h := ⟨rfl, rfl, rfl, rfl, rfl, fun _ _ _ => rfl, fun _ _ => rfl⟩
theorem AX_t (a : AX m ma h h1) (b : AX m ma h1 h2) : AX m ma h h2 := ⟨b.1.trans a.1, b.2.1.trans a.2.1, b.2.2.1.trans a.2.2.1, b.2.2.2.1.trans a.2.2.2.1, b.2.2.2.2.1.trans a.2.2.2.2.1, fun f x q => (b.2.2.2.2.2.1 f x q).trans (a.2.2.2.2.2.1 f x q), fun x q => (b.2.2.2.2.2.2 x q).trans (a.2.2.2.2.2.2 x q)⟩
theorem AX_J {j k : Nat} (hj : (27 ≤ j ∧ j ≤ 34) ∨ j = 41) (hk : (27 ≤ k ∧ k ≤ 34) ∨ k = 41) (a : JT (ma j) (ma k) h h1) : AX m ma h h1 := ⟨a.1, a.2.2.1, a.2.2.2.1, a.2.2.2.2.1, a.2.2.2.2.2.1, fun f x _ => by rw [a.2.1], fun x q => a.2.2.2.2.2.2 x (q j hj) (q k hk)⟩
theorem AX_MS (a : AX m ma h h1) (q : MS h m ma) : MS h1 m ma := by
  unfold MS at q ⊢
  rw [a.1, a.2.1, a.2.2.1]
  exact q
theorem AX_RM {s : VS} (a : AX m ma h h1) (q : RM h m ma s) : RM h1 m ma s := by
  unfold RM at q ⊢
  rw [a.2.2.2.1]
  exact ⟨fun k hk => (a.2.2.2.2.2.1 _ _ (fun z => by omega)).trans (q.1 k hk), q.2⟩
/-- the array of number k isn't written -/
theorem JT_ne {j k l : Nat} (q : MS h m ma) (a : JT (ma j) (ma k) h1 h2) (hj : l ≠ j) (hk : l ≠ k) : zJ h2 (ma l) = zJ h1 (ma l) := a.2.2.2.2.2.2 _ (fun z => hj ((MS_inj q l j).mp z)) (fun z => hk ((MS_inj q l k).mp z))
end
section
variable {s : VS} {pp : Int32} {n lo na p q : Nat} {ou : Int32}
theorem aPart_add (H : Nat → Nat) (a : Nat) : sm (aPart s ou H a) 81 = aOwn s H a + aMade s ou a := by
  unfold aOwn aMade
  rw [← sm_add]
  refine sm_cg (fun i _ => ?_)
  unfold aPart
  split
  · rfl
  · rfl
theorem aSu_le (H : Nat → Nat) (a : Nat) : aSu s ou H a ≤ sm (aPart s ou H a) 81 := by
  rw [aPart_add]
  unfold aSu aEx
  have := Nat.min_le_right (sm (aSp s ou a) 30) (aOwn s H a)
  omega
theorem aBo_le (H : Nat → Nat) (a i : Nat) : aBo s ou H a i ≤ aPart s ou H a i := dv_le (aSu_le H a) i
theorem aGood_le (a i : Nat) : aGood s ou a i ≤ nn (s.2.2.1 2 a i) := by
  unfold aGood
  split
  · exact Nat.zero_le _
  · exact Nat.le_refl _
theorem aStep_le (H : Nat → Nat) (a i : Nat) : aStep s ou H a i ≤ H i + nn (s.2.2.1 2 a i) := by
  have := aGood_le (s := s) (ou := ou) a i
  unfold aStep
  split
  · next hr =>
    unfold aPart
    rw [if_pos hr]
    omega
  · omega
/-- what each has and what may still be made good for it is never more than its worth -/
theorem hs_b (hI : IV pp s n lo na p) (hJ : JV q s n na p) {i : Nat} (hi : i < n) : ∀ k, k ≤ na → hs s ou k i + sm (fun a => nn (s.2.2.1 2 a i)) (na - k) ≤ 1000000 := by
  intro k
  induction k with
  | zero =>
    intro _
    have h6 := hJ.2.2.2.2.2.1 i hi
    obtain ⟨l, w, t, e1, e2, e3, b1, b2, b3, b4, b5⟩ := IV_num hI hi
    rw [e2, nn_I (by omega)] at h6
    show nn (s.2.1 2 i) + _ ≤ _
    rw [Nat.sub_zero]
    omega
  | succ k ih =>
    intro hk
    have h1 := ih (by omega)
    have h2 := aStep_le (s := s) (ou := ou) (hs s ou k) (ca s - 1 - k) i
    rw [IV_ca hI] at h2
    rw [show na - k = (na - (k + 1)) + 1 by omega] at h1
    have h3 : sm (fun a => nn (s.2.2.1 2 a i)) (na - (k + 1) + 1) = sm (fun a => nn (s.2.2.1 2 a i)) (na - (k + 1)) + nn (s.2.2.1 2 (na - (k + 1)) i) := rfl
    rw [h3] at h1
    rw [show na - (k + 1) = na - 1 - k by omega] at h1 ⊢
    show aStep s ou (hs s ou k) (ca s - 1 - k) i + _ ≤ _
    rw [IV_ca hI]
    omega
theorem hA_b (hI : IV pp s n lo na p) (hJ : JV q s n na p) {i a : Nat} (hi : i < n) (ha : a < na) : hA s ou a i + nn (s.2.2.1 2 a i) ≤ 1000000 := by
  have := hs_b (ou := ou) hI hJ hi (na - 1 - a) (by omega)
  rw [show na - (na - 1 - a) = a + 1 by omega] at this
  have h3 : sm (fun a => nn (s.2.2.1 2 a i)) (a + 1) = sm (fun a => nn (s.2.2.1 2 a i)) a + nn (s.2.2.1 2 a i) := rfl
  unfold hA
  rw [IV_ca hI]
  omega
theorem hA_part (hI : IV pp s n lo na p) (hJ : JV q s n na p) {i a : Nat} (ha : a < na) : aPart s ou (hA s ou a) a i ≤ 1000000 := by
  unfold aPart
  split
  · next hr =>
    have h1 : i < n := by have := hr.1; rw [IV_cn hI] at this; exact this
    have := hA_b (ou := ou) hI hJ h1 ha
    have := aGood_le (s := s) (ou := ou) a i
    omega
  · omega
theorem aSp_b (hI : IV pp s n lo na p) (hJ : JV q s n na p) {a o : Nat} (ha : a < na) (ho : o < 30) : nn (s.2.2.2 a o) ≤ 1000000 ∧ s.2.2.2 a o = nI (nn (s.2.2.2 a o)) := by
  have h8 := hJ.2.2.2.2.2.2.2 a o ha ho
  obtain ⟨h1, h2⟩ := nn_le (k := 1000000) (by decide) h8.1 h8.2
  exact ⟨h2, h1⟩
theorem aSp_le (hI : IV pp s n lo na p) (hJ : JV q s n na p) {a o : Nat} (ha : a < na) (ho : o < 30) : aSp s ou a o ≤ 1000000 := by
  unfold aSp
  split
  · omega
  · exact (aSp_b hI hJ ha ho).1
theorem aGood_n (hI : IV pp s n lo na p) (hJ : JV q s n na p) {a i : Nat} (ha : a < na) (hi : i < 81) : s.2.2.1 2 a i = nI (nn (s.2.2.1 2 a i)) ∧ nn (s.2.2.1 2 a i) < 2147483648 := nn_of (hJ.2.2.2.2.1 a i ha hi).2.1
end
